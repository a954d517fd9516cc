/-! ===== pure level: the calls, class beside model (15): storm; laid by mkops14.py ===== -/
def sF (f : Nat → Nat) : Nat → Nat → Nat
  | 0, _ => 0
  | d + 1, k => f k + sF f d (k + 1)
theorem sF_cg {f h : Nat → Nat} : ∀ (d k : Nat), (∀ j, k ≤ j → j < k + d → f j = h j) → sF f d k = sF h d k
  | 0, _, _ => rfl
  | d + 1, k, e => by
    show f k + sF f d (k + 1) = h k + sF h d (k + 1)
    rw [e k (by omega) (by omega), sF_cg d (k + 1) (fun j h1 h2 => e j (by omega) (by omega))]
theorem sF_add (f h : Nat → Nat) : ∀ (d k : Nat), sF (fun j => f j + h j) d k = sF f d k + sF h d k
  | 0, _ => rfl
  | d + 1, k => by
    show f k + h k + sF (fun j => f j + h j) d (k + 1) = (f k + sF f d (k + 1)) + (h k + sF h d (k + 1))
    rw [sF_add f h d (k + 1)]
    omega
theorem sF_cut (f : Nat → Nat) : ∀ (d e k : Nat), sF f (d + e) k = sF f d k + sF f e (k + d)
  | 0, e, k => by rw [Nat.zero_add, Nat.add_zero]; show _ = 0 + _; rw [Nat.zero_add]
  | d + 1, e, k => by
    rw [show d + 1 + e = (d + e) + 1 by omega]
    show f k + sF f (d + e) (k + 1) = f k + sF f d (k + 1) + _
    rw [sF_cut f d e (k + 1), show k + 1 + d = k + (d + 1) by omega]
    omega
theorem sF_sh (f : Nat → Nat) (m : Nat) : ∀ (d k : Nat), sF f d (k + m) = sF (fun j => f (j + m)) d k
  | 0, _ => rfl
  | d + 1, k => by
    show f (k + m) + sF f d (k + m + 1) = f (k + m) + sF (fun j => f (j + m)) d (k + 1)
    rw [show k + m + 1 = k + 1 + m by omega, sF_sh f m d (k + 1)]
theorem sF_mul (c : Nat) (f : Nat → Nat) : ∀ (d k : Nat), sF (fun j => f j * c) d k = sF f d k * c
  | 0, _ => by show 0 = 0 * c; rw [Nat.zero_mul]
  | d + 1, k => by
    show f k * c + sF (fun j => f j * c) d (k + 1) = (f k + sF f d (k + 1)) * c
    rw [sF_mul c f d (k + 1), Nat.add_mul]
theorem sF_le (f : Nat → Nat) : ∀ (d k j : Nat), k ≤ j → j < k + d → f j ≤ sF f d k
  | 0, k, j, h1, h2 => by omega
  | d + 1, k, j, h1, h2 => by
    show f j ≤ f k + sF f d (k + 1)
    by_cases e : j = k
    · subst e; omega
    · have := sF_le f d (k + 1) j (by omega) (by omega)
      omega
/-- something added at a place -/
def adN (f : Nat → Nat) (i v : Nat) : Nat → Nat := fun j => if j = i then f j + v else f j
theorem sF_ad (f φ : Nat → Nat) (i v : Nat) : ∀ (d k : Nat), sF (fun c => adN f i v c * φ c) d k = sF (fun c => f c * φ c) d k + (if k ≤ i ∧ i < k + d then v * φ i else 0)
  | 0, k => by rw [if_neg (by omega)]; rfl
  | d + 1, k => by
    show adN f i v k * φ k + sF (fun c => adN f i v c * φ c) d (k + 1) = f k * φ k + sF (fun c => f c * φ c) d (k + 1) + _
    rw [sF_ad f φ i v d (k + 1)]
    unfold adN
    by_cases e : k = i
    · subst e
      rw [if_pos rfl, if_neg (by omega), if_pos (by omega), Nat.add_mul]
      omega
    · rw [if_neg e]
      by_cases h : k + 1 ≤ i ∧ i < k + 1 + d
      · rw [if_pos h, if_pos (by omega)]; omega
      · rw [if_neg h, if_neg (by omega)]; omega
theorem sF_at (f : Nat → Nat) (i : Nat) : ∀ (d k : Nat), sF (fun c => f c * (if c = i then 1 else 0)) d k = (if k ≤ i ∧ i < k + d then f i else 0)
  | 0, k => by rw [if_neg (by omega)]; rfl
  | d + 1, k => by
    show f k * (if k = i then 1 else 0) + sF (fun c => f c * (if c = i then 1 else 0)) d (k + 1) = _
    rw [sF_at f i d (k + 1)]
    by_cases e : k = i
    · subst e
      rw [if_pos rfl, if_neg (by omega), if_pos (by omega)]
      omega
    · rw [if_neg e, Nat.mul_zero, Nat.zero_add]
      by_cases h : k + 1 ≤ i ∧ i < k + 1 + d
      · rw [if_pos h, if_pos (by omega)]
      · rw [if_neg h, if_neg (by omega)]
/-- days that pass without the ship -/
def bsT (t : Nat → Nat) (k : Nat) : Nat → Nat := it (fun _ => sdT) k 0 t
theorem bsT_s (t : Nat → Nat) (k : Nat) : bsT t (k + 1) = sdT (bsT t k) := by
  unfold bsT
  rw [it_snoc]
theorem pd_ship (v : Nat → Nat) (c : Nat) : pdT (updN v 3 c) = updN (pdT v) 3 c := by
  funext j
  unfold pdT
  rw [itS_at, updN_ne (show 1 ≠ 3 by decide)]
  by_cases h : 13 ≤ j ∧ (j - 13) % 5 = 0 ∧ 0 ≤ (j - 13) / 5 ∧ (j - 13) / 5 < 0 + v 1
  · rw [if_pos h, updN_ne (by omega), updN_ne (by omega), updN_ne (by omega), itS_at, if_pos h]
  · rw [if_neg h]
    unfold updN
    split
    · rfl
    · rw [itS_at, if_neg h]
theorem up23 (v : Nat → Nat) (c x : Nat) : updN (updN v 3 c) 2 x = updN (updN v 2 x) 3 c := by
  funext j
  unfold updN
  by_cases h : j = 2
  · rw [if_pos h, if_neg (by omega), if_pos h]
  · rw [if_neg h, if_neg h]
theorem up33 (v : Nat → Nat) (c x : Nat) : updN (updN v 3 c) 3 x = updN v 3 x := by
  funext j
  unfold updN
  split <;> rfl
theorem up3s (v : Nat → Nat) : updN v 3 (v 3) = v := by
  funext j
  unfold updN
  split
  · rename_i h; rw [h]
  · rfl
theorem sd_ship (v : Nat → Nat) (c : Nat) : sdT (updN v 3 c) = updN (sdT v) 3 c := by
  unfold sdT
  rw [updN_ne (show 2 ≠ 3 by decide), up23, pd_ship]
def nxT (v : Nat → Nat) (c : Nat) : Nat := wyN c (ndT (updN v 3 c) (-9))
theorem dy_ship (v : Nat → Nat) (c : Nat) : dyT (updN v 3 c) = updN (sdT v) 3 (nxT v c) := by
  unfold dyT sdT nxT
  rw [updN_ne (show 2 ≠ 3 by decide), updN_eq, up23, up33, pd_ship]
def eST (t : Nat → Nat) (q : Nat) : Nat → Nat
  | 0 => t 3
  | k + 1 => if q / 2 ^ k % 2 = 1 then eST t q k else nxT (bsT t k) (eST t q k)
def wST (T q : Nat) : Nat → Nat
  | 0 => 1
  | k + 1 => wST T q k * (if q / 2 ^ k % 2 = 1 then 1 else T - 1)
theorem eS_cg (t : Nat → Nat) {q q' : Nat} : ∀ k, (∀ j, j < k → q / 2 ^ j % 2 = q' / 2 ^ j % 2) → eST t q k = eST t q' k
  | 0, _ => rfl
  | k + 1, h => by
    unfold eST
    rw [eS_cg t k (fun j hj => h j (by omega)), h k (by omega)]
theorem wS_cg (T : Nat) {q q' : Nat} : ∀ k, (∀ j, j < k → q / 2 ^ j % 2 = q' / 2 ^ j % 2) → wST T q k = wST T q' k
  | 0, _ => rfl
  | k + 1, h => by
    unfold wST
    rw [wS_cg T k (fun j hj => h j (by omega)), h k (by omega)]
theorem hi_bit {s k j : Nat} (hj : j < k) : (s + 2 ^ k) / 2 ^ j % 2 = s / 2 ^ j % 2 := by
  obtain ⟨d, rfl⟩ : ∃ d, k = j + 1 + d := ⟨k - (j + 1), by omega⟩
  have e2 : 2 ^ (j + 1 + d) = (2 * 2 ^ d) * 2 ^ j := by
    rw [Nat.pow_add, Nat.pow_succ]
    simp only [Nat.mul_comm, Nat.mul_left_comm, Nat.mul_assoc]
  rw [e2, Nat.add_mul_div_right _ _ (Nat.two_pow_pos j)]
  omega
theorem hi_one {s k : Nat} (h : s < 2 ^ k) : (s + 2 ^ k) / 2 ^ k % 2 = 1 ∧ s / 2 ^ k % 2 = 0 := by
  have e : (s + 2 ^ k) / 2 ^ k = s / 2 ^ k + 1 := by
    have := Nat.add_mul_div_right s 1 (Nat.two_pow_pos k)
    rw [Nat.one_mul] at this
    exact this
  rw [e, Nat.div_eq_of_lt h]
  exact ⟨rfl, rfl⟩
def psi (T : Nat) (v φ : Nat → Nat) : Nat → Nat := fun c => φ c + (T - 1) * φ (nxT v c)
def pth (t : Nat → Nat) (T k : Nat) (φ : Nat → Nat) : Nat := sF (fun q => wST T q k * φ (eST t q k)) (2 ^ k) 0
/-- a day more among all the ways that it may go -/
theorem pth_s (t : Nat → Nat) (T k : Nat) (φ : Nat → Nat) : pth t T (k + 1) φ = pth t T k (psi T (bsT t k) φ) := by
  unfold pth
  rw [Nat.pow_succ, Nat.mul_two, sF_cut, sF_sh, ← sF_add]
  refine sF_cg _ _ (fun q _ hq => ?_)
  obtain ⟨h1, h2⟩ := hi_one (s := q) (k := k) (by omega)
  show wST T q (k + 1) * φ (eST t q (k + 1)) + wST T (q + 2 ^ k) (k + 1) * φ (eST t (q + 2 ^ k) (k + 1)) = _
  have a1 : wST T q (k + 1) = wST T q k * (T - 1) := by
    show wST T q k * (if q / 2 ^ k % 2 = 1 then 1 else T - 1) = _
    rw [h2, if_neg (by decide)]
  have a2 : eST t q (k + 1) = nxT (bsT t k) (eST t q k) := by
    show (if q / 2 ^ k % 2 = 1 then eST t q k else nxT (bsT t k) (eST t q k)) = _
    rw [h2, if_neg (by decide)]
  have a3 : wST T (q + 2 ^ k) (k + 1) = wST T q k := by
    show wST T (q + 2 ^ k) k * (if (q + 2 ^ k) / 2 ^ k % 2 = 1 then 1 else T - 1) = _
    rw [h1, if_pos rfl, Nat.mul_one]
    exact wS_cg T k (fun j hj => hi_bit hj)
  have a4 : eST t (q + 2 ^ k) (k + 1) = eST t q k := by
    show (if (q + 2 ^ k) / 2 ^ k % 2 = 1 then eST t (q + 2 ^ k) k else nxT (bsT t k) (eST t (q + 2 ^ k) k)) = _
    rw [h1, if_pos rfl]
    exact eS_cg t k (fun j hj => hi_bit hj)
  rw [a1, a2, a3, a4]
  unfold psi
  rw [Nat.mul_add, Nat.mul_assoc]
  omega
/-- the spread: every cell's chances stay, and go on -/
def spS (T : Nat) (v ch : Nat → Nat) (c : Nat) (f : Nat → Nat) : Nat → Nat := adN (adN f c (ch c)) (nxT v c) (ch c * (T - 1))
def spT (T : Nat) (v ch : Nat → Nat) : Nat → Nat := it (spS T v ch) 64 0 (fun _ => 0)
def wsN (ch φ : Nat → Nat) : Nat := sF (fun c => ch c * φ c) 64 0
theorem ws_ad (f φ : Nat → Nat) {i v : Nat} (hi : i < 64) : wsN (adN f i v) φ = wsN f φ + v * φ i := by
  unfold wsN
  rw [sF_ad, if_pos (by omega)]
theorem ws_sp (T : Nat) (v ch φ : Nat → Nat) (hn : ∀ c, c < 64 → nxT v c < 64) : ∀ (d k : Nat) (f : Nat → Nat), k + d ≤ 64 → wsN (it (spS T v ch) d k f) φ = wsN f φ + sF (fun c => ch c * psi T v φ c) d k
  | 0, _, f, _ => by
    show wsN f φ = wsN f φ + 0
    exact (Nat.add_zero _).symm
  | d + 1, k, f, h => by
    show wsN (it (spS T v ch) d (k + 1) (spS T v ch k f)) φ = wsN f φ + (ch k * psi T v φ k + sF (fun c => ch c * psi T v φ c) d (k + 1))
    rw [ws_sp T v ch φ hn d (k + 1) _ (by omega)]
    unfold spS
    rw [ws_ad _ _ (hn k (by omega)), ws_ad _ _ (by omega)]
    unfold psi
    rw [Nat.mul_add, Nat.mul_assoc]
    omega
theorem ws_0 (φ : Nat → Nat) : ∀ d k, sF (fun c => (fun _ => 0 : Nat → Nat) c * φ c) d k = 0
  | 0, _ => rfl
  | d + 1, k => by
    show 0 * φ k + sF (fun c => (fun _ => 0 : Nat → Nat) c * φ c) d (k + 1) = 0
    rw [ws_0 φ d (k + 1), Nat.zero_mul]
theorem ws_spT (T : Nat) (v ch φ : Nat → Nat) (hn : ∀ c, c < 64 → nxT v c < 64) : wsN (spT T v ch) φ = wsN ch (psi T v φ) := by
  unfold spT
  rw [ws_sp T v ch φ hn 64 0 _ (by omega)]
  show sF (fun c => (fun _ => 0 : Nat → Nat) c * φ c) 64 0 + _ = _
  rw [ws_0, Nat.zero_add]
  rfl
def CHL (f : Nat → Int64) (ch : Nat → Nat) : Prop := ∀ c, c < 64 → f c = lN (ch c)
theorem CHL.add {f : Nat → Int64} {ch : Nat → Nat} (h : CHL f ch) {i v : Nat} {x : Int64} (hi : i < 64) (hx : x = f i + lN v) : CHL (vp_updL f i x) (adN ch i v) := by
  intro c hc
  unfold vp_updL adN
  by_cases e : c = i
  · subst e
    rw [if_pos rfl, if_pos rfl, hx, h c hc, lN_add]
  · rw [if_neg e, if_neg e]; exact h c hc
theorem ad_0 (f : Nat → Nat) (i : Nat) : adN f i 0 = f := by
  funext j
  unfold adN
  split <;> rfl
/-- the chances behind k days, and what is known of them -/
def chT (t : Nat → Nat) (T : Nat) : Nat → Nat → Nat
  | 0 => fun c => if c = t 3 then 1 else 0
  | k + 1 => spT T (bsT t k) (chT t T k)
section PC15
variable {g : Nat} {t : Nat → Nat} {np nh na ns nd : Int32} {nc nk nf nl nse : Nat → Int32}
theorem WF.bs (w : WF t) : ∀ k, WF (bsT t k)
  | 0 => w
  | k + 1 => by rw [bsT_s]; exact (WF.bs w k).sday2
theorem bs_ne (t : Nat → Nat) {j : Nat} (h2 : j ≠ 2) (h : j < 13 ∨ (j - 13) % 5 ≠ 0) : ∀ k, bsT t k j = t j
  | 0 => rfl
  | k + 1 => by
    rw [bsT_s]
    unfold sdT
    rw [pdT_ne h, updN_ne h2]
    exact bs_ne t h2 h k
theorem nx_lt {v : Nat → Nat} {c : Nat} (hc : c < 64) : nxT v c < 64 := (wy_ok hc _).2
theorem ch_ws (w : WF t) (T : Nat) : ∀ (k : Nat) (φ : Nat → Nat), wsN (chT t T k) φ = pth t T k φ
  | 0, φ => by
    have h3 := w.2.2.1
    have e : wsN (chT t T 0) φ = φ (t 3) := by
      unfold wsN chT
      rw [sF_cg (h := fun c => φ c * (if c = t 3 then 1 else 0)) 64 0 (fun j _ _ => Nat.mul_comm _ _), sF_at, if_pos (by omega)]
    rw [e]
    show _ = 1 * φ (t 3) + 0
    omega
  | k + 1, φ => by
    show wsN (spT T (bsT t k) (chT t T k)) φ = _
    rw [ws_spT T _ _ _ (fun c hc => nx_lt hc), ch_ws w T k, pth_s]
theorem ch_tot (w : WF t) {T : Nat} (hT : 1 ≤ T) : ∀ k, wsN (chT t T k) (fun _ => 1) = T ^ k
  | 0 => by
    rw [ch_ws w T 0]
    rfl
  | k + 1 => by
    show wsN (spT T (bsT t k) (chT t T k)) (fun _ => 1) = _
    rw [ws_spT T _ _ _ (fun c hc => nx_lt hc)]
    have e : psi T (bsT t k) (fun _ => 1) = fun c => (fun _ => 1 : Nat → Nat) c * T := by
      funext c
      show 1 + (T - 1) * 1 = 1 * T
      omega
    rw [e]
    unfold wsN
    rw [sF_cg (h := fun c => (chT t T k c * (fun _ => 1 : Nat → Nat) c) * T) 64 0 (fun j _ _ => (Nat.mul_assoc _ _ _).symm), sF_mul, Nat.pow_succ]
    have := ch_tot w hT k
    unfold wsN at this
    rw [this]
theorem ch_le (w : WF t) {T k : Nat} (hT : 1 ≤ T) (hT2 : T ≤ 20) (hk : k ≤ 7) {c : Nat} (hc : c < 64) : chT t T k c ≤ T ^ k ∧ T ^ k ≤ 1280000000 := by
  have h1 := sF_le (fun c => chT t T k c * (fun _ => 1 : Nat → Nat) c) 64 0 c (by omega) (by omega)
  have h2 := ch_tot w hT k
  unfold wsN at h2
  rw [h2] at h1
  have h3 : T ^ k ≤ 20 ^ 7 := Nat.le_trans (Nat.pow_le_pow_left hT2 k) (Nat.pow_le_pow_right (by decide) hk)
  have h4 : (20 : Nat) ^ 7 = 1280000000 := by decide
  have h5 : chT t T k c * 1 ≤ T ^ k := h1
  omega
theorem ch_end (w : WF t) (T n : Nat) {c0 : Nat} (hc : c0 < 64) : chT t T n c0 = sF (fun q => if eST t q n = c0 then wST T q n else 0) (2 ^ n) 0 := by
  have h1 := ch_ws w T n (fun c => if c = c0 then 1 else 0)
  unfold wsN pth at h1
  rw [sF_at, if_pos (by omega)] at h1
  rw [h1]
  refine sF_cg _ _ (fun q _ _ => ?_)
  show wST T q n * (if eST t q n = c0 then 1 else 0) = _
  split
  · rw [Nat.mul_one]
  · rw [Nat.mul_zero]
theorem zer_L : ∀ (d k n : Nat) (z : Nat → Int64), k + d = 64 → d < n → (∀ c, c < k → z c = lN 0) → ∃ z', fX1_spread_L2 g n (nI k) z = some z' ∧ fX1_blow_L3 g n (nI k) z = some z' ∧ CHL z' (fun _ => 0) := by
  intro d
  induction d with
  | zero =>
    intro k n z hk hn hz
    obtain ⟨n, rfl⟩ : ∃ m, n = m + 1 := ⟨n - 1, by omega⟩
    have e : (64 : Int32) ≤ nI k := nI_le (a := 64) (by omega) (by omega)
    refine ⟨z, ?_, ?_, fun c hc => hz c (by omega)⟩
    · show fX1_spread_L2_b g _ (nI k) z = _
      unfold fX1_spread_L2_b
      rw [if_pos e]
    · show fX1_blow_L3_b g _ (nI k) z = _
      unfold fX1_blow_L3_b
      rw [if_pos e]
  | succ d ih =>
    intro k n z hk hn hz
    obtain ⟨n, rfl⟩ : ∃ m, n = m + 1 := ⟨n - 1, by omega⟩
    have e : ¬ (64 : Int32) ≤ nI k := nI_ge (b := 64) (by omega) (by omega)
    obtain ⟨z', h1, h2, h3⟩ := ih (k + 1) n (vp_updL z k 0) (by omega) (by omega) (fun c hc => by
      unfold vp_updL
      by_cases e2 : c = k
      · rw [if_pos e2]; rfl
      · rw [if_neg e2]; exact hz c (by omega))
    refine ⟨z', ?_, ?_, h3⟩
    · show fX1_spread_L2_b g (fX1_spread_L2 g n) (nI k) z = _
      unfold fX1_spread_L2_b
      rw [if_neg e, gdn (by omega) (by decide), nI_clamp (by omega), nI_1]
      exact h1
    · show fX1_blow_L3_b g (fX1_blow_L3 g n) (nI k) z = _
      unfold fX1_blow_L3_b
      rw [if_neg e, gdn (by omega) (by decide), nI_clamp (by omega), nI_1]
      exact h2
theorem spr_L (hg : big g) {v ch : Nat → Nat} (wv : WF v) (R : RV v np nh na ns nd nc nk nf nl nse) {T : Nat} (hT : 1 ≤ T) (hT2 : T ≤ 20) {f : Nat → Int64} (hf : CHL f ch) (hch : ∀ c, c < 64 → ch c < 2 ^ 31) : ∀ (d k n : Nat) (z : Nat → Int64) (zf : Nat → Nat) (s : Nat) (x y : Int32), k + d = 64 → d < n → CHL z zf → s < 64 → ∃ z' s' x' y', fX1_spread_L23 g (nI T) f nh na nc nk nf nl nse n (nI k) z (nI s) x y = some (z', nI s', x', y') ∧ CHL z' (it (spS T v ch) d k zf) ∧ s' < 64 := by
  intro d
  induction d with
  | zero =>
    intro k n z zf s x y hk hn hz hs
    obtain ⟨n, rfl⟩ : ∃ m, n = m + 1 := ⟨n - 1, by omega⟩
    refine ⟨z, s, x, y, ?_, hz, hs⟩
    show fX1_spread_L23_b g (nI T) f nh na nc nk nf nl nse _ (nI k) z (nI s) x y = _
    unfold fX1_spread_L23_b
    rw [if_pos (show (64 : Int32) ≤ nI k from nI_le (a := 64) (by omega) (by omega))]
  | succ d ih =>
    intro k n z zf s x y hk hn hz hs
    obtain ⟨n, rfl⟩ : ∃ m, n = m + 1 := ⟨n - 1, by omega⟩
    have hk64 : k < 64 := by omega
    have e1 : f k = lN (ch k) := hf k hk64
    have hc := hch k hk64
    show ∃ z' s' x' y', fX1_spread_L23_b g (nI T) f nh na nc nk nf nl nse (fX1_spread_L23 g (nI T) f nh na nc nk nf nl nse n) (nI k) z (nI s) x y = some (z', nI s', x', y') ∧ CHL z' (it (spS T v ch) d (k + 1) (spS T v ch k zf)) ∧ s' < 64
    unfold fX1_spread_L23_b
    rw [if_neg (show ¬ (64 : Int32) ≤ nI k from nI_ge (b := 64) (by omega) (by omega)), gdn hk64 (by decide)]
    simp only [nI_clamp (show k < 2 ^ 31 by omega), e1]
    by_cases e0 : ch k = 0
    · rw [if_pos (by rw [lc_p hc]; exact e0), nI_1]
      have es : spS T v ch k zf = zf := by
        unfold spS
        rw [e0, Nat.zero_mul, ad_0, ad_0]
      rw [es]
      exact ih (k + 1) n z zf s x y (by omega) (by omega) hz hs
    · have Rk := R.ship3 wv k
      have wk : WF (updN v 3 k) := wv.upd3 hk64
      have hy := wy_ok hk64 (ndT (updN v 3 k) (-9))
      have hnx : wyN k (ndT (updN v 3 k) (-9)) < 64 := hy.2
      have z1 := hz.add (i := k) (v := ch k) (x := z k + lN (ch k)) hk64 rfl
      have hT1 : (nI T - 1).toInt64 = lN (T - 1) := by
        rw [show (1 : Int32) = nI 1 from rfl, pk_sub hT, nI_l (by omega)]
      have z2 := z1.add (i := wyN k (ndT (updN v 3 k) (-9))) (v := ch k * (T - 1)) (x := (vp_updL z k (z k + lN (ch k))) (wyN k (ndT (updN v 3 k) (-9))) + lN (ch k) * lN (T - 1)) hnx (by rw [lN_mul])
      rw [if_neg (by rw [lc_p hc]; exact e0), gdn hk64 (by decide), gdn hk64 (by decide), gdn hk64 (by decide), vPoints wk hg Rk, bd3_s, vCellOn hk64, bd1_s, hy.1, gdn hnx (by decide), gdn hk64 (by decide), gdn hnx (by decide), nI_clamp (show wyN k (ndT (updN v 3 k) (-9)) < 2 ^ 31 by omega), hT1, nI_1]
      exact ih (k + 1) n _ _ k _ _ (by omega) (by omega) z2 hk64
theorem vSpread (hg : big g) {v ch : Nat → Nat} (wv : WF v) (R : RV v np nh na ns nd nc nk nf nl nse) {T : Nat} (hT : 1 ≤ T) (hT2 : T ≤ 20) {f z : Nat → Int64} (hf : CHL f ch) (hch : ∀ c, c < 64 → ch c < 2 ^ 31) {s : Nat} (hs : s < 64) (x y : Int32) : ∃ f' z' s' x' y', fX1_spread g (nI T) f z nh na (nI s) x y nc nk nf nl nse = some (f', z', nI s', x', y') ∧ CHL f' (spT T v ch) ∧ s' < 64 := by
  have hg' : 100000000000000000000 ≤ g := hg
  obtain ⟨z1, h1, -, h2⟩ := zer_L (g := g) 64 0 g z (by omega) (by omega) (fun c hc => by omega)
  obtain ⟨z2, s', x', y', h3, h4, h5⟩ := spr_L (g := g) hg wv R hT hT2 hf hch 64 0 g z1 _ s x y (by omega) (by omega) h2 hs
  refine ⟨va_cpy z2 f 0 0 64, z2, s', x', y', ?_, fun c hc => ?_, h5⟩
  · unfold fX1_spread
    show bd1 (fX1_spread_L2 g g (nI 0) z) _ = _
    rw [h1, bd1_s]
    show bd4 (fX1_spread_L23 g (nI T) f nh na nc nk nf nl nse g (nI 0) z1 (nI s) x y) _ = _
    rw [h3, bd4_s]
  · rw [cpy_at hc]
    exact h4 c hc
theorem blow_L (w : WF t) (hg : big g) {n T : Nat} (hn : n ≤ 7) (hT : 1 ≤ T) (hT2 : T ≤ 20) : ∀ (d k f : Nat) (ch zx : Nat → Int64) (s : Nat) (day x y : Int32) (se : Nat → Int32), k + d = n → d < f → CHL ch (chT t T k) → s < 64 → RV (updN (bsT t k) 3 s) np nh na (nI s) day nc nk nf nl se → ∃ ch' zx' s' d' x' y' se', fX1_blow_L42 g (nI n) (nI T) nh na nc nk nf nl f (nI k) (lN (T ^ k)) ch zx (nI s) day x y se = some (lN (T ^ n), ch', zx', nI s', d', x', y', se') ∧ CHL ch' (chT t T n) := by
  intro d
  induction d with
  | zero =>
    intro k f ch zx s day x y se hk hf hc hs R
    obtain ⟨f, rfl⟩ : ∃ m, f = m + 1 := ⟨f - 1, by omega⟩
    have e : k = n := by omega
    subst e
    refine ⟨ch, zx, s, day, x, y, se, ?_, hc⟩
    show fX1_blow_L42_b g (nI k) (nI T) nh na nc nk nf nl _ (nI k) (lN (T ^ k)) ch zx (nI s) day x y se = _
    unfold fX1_blow_L42_b
    rw [if_pos (nI_le (by omega) (by omega))]
  | succ d ih =>
    intro k f ch zx s day x y se hk hf hc hs R
    obtain ⟨f, rfl⟩ : ∃ m, f = m + 1 := ⟨f - 1, by omega⟩
    have wb := WF.bs w k
    have wk := wb.upd3 hs
    have hch : ∀ c, c < 64 → chT t T k c < 2 ^ 31 := fun c hc => by
      have := ch_le w hT hT2 (show k ≤ 7 by omega) hc
      omega
    have Rb : RV (bsT t k) np nh na (nI (bsT t k 3)) day nc nk nf nl se := by
      have := R.ship3 wk (bsT t k 3)
      rw [up33, up3s] at this
      exact this
    obtain ⟨f1, z1, s1, x1, y1, h1, h2, h3⟩ := vSpread (g := g) hg (z := zx) wb Rb hT hT2 hc hch hs x y
    have R1 := Rb.ship3 wb s1
    have w1 := wb.upd3 h3
    obtain ⟨se1, h4, h5⟩ := vPass (g := g) w1 hg R1
    have R2 := R1.pass w1 (v := s1) h5
    have et : pdT (updN (updN (updN (bsT t k) 3 s1) 2 (updN (bsT t k) 3 s1 2 + 1)) 3 s1) = updN (bsT t (k + 1)) 3 s1 := by
      rw [bsT_s, updN_ne (show 2 ≠ 3 by decide), up23, up33, pd_ship]
      rfl
    rw [et] at R2
    obtain ⟨ch', zx', s', d', x', y', se', h6, h7⟩ := ih (k + 1) f f1 z1 s1 _ x1 y1 se1 (by omega) (by omega) h2 h3 R2
    refine ⟨ch', zx', s', d', x', y', se', ?_, h7⟩
    show fX1_blow_L42_b g (nI n) (nI T) nh na nc nk nf nl (fX1_blow_L42 g (nI n) (nI T) nh na nc nk nf nl f) (nI k) (lN (T ^ k)) ch zx (nI s) day x y se = _
    unfold fX1_blow_L42_b
    rw [if_neg (nI_ge (by omega) (by omega)), h1, bd5_s, h4, bd2_s, nI_l (by omega), lN_mul, ← Nat.pow_succ, nI_1]
    exact h6
theorem vBlow (w : WF t) (hg : big g) {n T : Nat} (hn : n ≤ 7) (hT : 1 ≤ T) (hT2 : T ≤ 20) (R : RV t np nh na ns nd nc nk nf nl nse) (cw zx : Nat → Int64) (x y : Int32) : ∃ ch' zx' s' d' x' y' se', fX1_blow g (nI n) (nI T) cw zx nh na ns nd x y nc nk nf nl nse = some (lN (T ^ n), ch', zx', s', d', x', y', se') ∧ CHL ch' (chT t T n) := by
  have hg' : 100000000000000000000 ≤ g := hg
  have h3 := w.2.2.1
  obtain ⟨z1, -, h1, h2⟩ := zer_L (g := g) 64 0 g cw (by omega) (by omega) (fun c hc => by omega)
  have c0 : CHL (vp_updL z1 (t 3) 1) (chT t T 0) := by
    intro c hc
    unfold vp_updL chT
    by_cases e : c = t 3
    · rw [if_pos e, if_pos e]; rfl
    · rw [if_neg e, if_neg e]; exact h2 c hc
  have R0 : RV (updN (bsT t 0) 3 (t 3)) np nh na (nI (t 3)) nd nc nk nf nl nse := by
    have e : updN (bsT t 0) 3 (t 3) = t := up3s t
    rw [e, ← R.2.2.2.1]
    exact R
  obtain ⟨ch', zx', s', d', x', y', se', h4, h5⟩ := blow_L (g := g) w hg hn hT hT2 n 0 g _ zx (t 3) nd x y nse (by omega) (by omega) c0 h3 R0
  refine ⟨ch', zx', nI s', d', x', y', se', ?_, h5⟩
  unfold fX1_blow
  show bd1 (fX1_blow_L3 g g (nI 0) cw) _ = _
  rw [h1, bd1_s, R.2.2.2.1, gdn h3 (by decide), nI_clamp (by omega)]
  show bd8 (fX1_blow_L42 g (nI n) (nI T) nh na nc nk nf nl g (nI 0) (lN (T ^ 0)) (vp_updL z1 (t 3) 1) zx (nI (t 3)) nd x y nse) _ = _
  rw [h4, bd8_s]
theorem mPow_L {n T : Nat} (hn : n ≤ 7) (hT2 : T ≤ 20) : ∀ (d k f x : Nat), k + d = n → d < f → fX5_storm_L75 g (nI n) (nI T) f (lN x) (nI k) = some (lN (x * T ^ d)) := by
  intro d
  induction d with
  | zero =>
    intro k f x hk hf
    obtain ⟨f, rfl⟩ : ∃ m, f = m + 1 := ⟨f - 1, by omega⟩
    show fX5_storm_L75_b g (nI n) (nI T) _ (lN x) (nI k) = _
    unfold fX5_storm_L75_b
    rw [if_pos (nI_le (by omega) (by omega)), Nat.pow_zero, Nat.mul_one]
  | succ d ih =>
    intro k f x hk hf
    obtain ⟨f, rfl⟩ : ∃ m, f = m + 1 := ⟨f - 1, by omega⟩
    show fX5_storm_L75_b g (nI n) (nI T) (fX5_storm_L75 g (nI n) (nI T) f) (lN x) (nI k) = _
    unfold fX5_storm_L75_b
    rw [if_neg (nI_ge (by omega) (by omega)), nI_l (by omega), lN_mul, nI_1, ih (k + 1) f _ (by omega) (by omega), Nat.pow_succ, Nat.mul_assoc, Nat.mul_comm T]
theorem mPath_L (w : WF t) (hg : big g) {n T q : Nat} (hn : n ≤ 7) (hT : 1 ≤ T) (hT2 : T ≤ 20) (hq : q < 128) : ∀ (d k f : Nat), k + d = n → d < f → eST t q k < 64 → fX5_storm_L122 g (nI n) (nI T) (nI q) f (lN (wST T q k)) (nI k) (rw1 (updN (bsT t k) 3 (eST t q k))) = some (lN (wST T q n), rw1 (updN (bsT t n) 3 (eST t q n))) ∧ eST t q n < 64 := by
  intro d
  induction d with
  | zero =>
    intro k f hk hf he
    obtain ⟨f, rfl⟩ : ∃ m, f = m + 1 := ⟨f - 1, by omega⟩
    have e : k = n := by omega
    subst e
    refine ⟨?_, he⟩
    show fX5_storm_L122_b g (nI k) (nI T) (nI q) _ (lN (wST T q k)) (nI k) _ = _
    unfold fX5_storm_L122_b
    rw [if_pos (nI_le (by omega) (by omega))]
  | succ d ih =>
    intro k f hk hf he
    obtain ⟨f, rfl⟩ : ∃ m, f = m + 1 := ⟨f - 1, by omega⟩
    have wk := (WF.bs w k).upd3 he
    have eb : ((nI q >>> (nI k &&& 31)) &&& 1 = (1 : Int32)) = (q / 2 ^ k % 2 = 1) := by rw [bit7 q hq k (by omega)]; exact n1 1 (by omega) (by decide)
    have hT1 : (nI T - 1).toInt64 = lN (T - 1) := by
      rw [show (1 : Int32) = nI 1 from rfl, pk_sub hT, nI_l (by omega)]
    have step : fX5_storm_L122 g (nI n) (nI T) (nI q) (f + 1) (lN (wST T q k)) (nI k) (rw1 (updN (bsT t k) 3 (eST t q k))) = fX5_storm_L122 g (nI n) (nI T) (nI q) f (lN (wST T q (k + 1))) (nI (k + 1)) (rw1 (updN (bsT t (k + 1)) 3 (eST t q (k + 1)))) ∧ eST t q (k + 1) < 64 := by
      have s1 : fX5_storm_L122 g (nI n) (nI T) (nI q) (f + 1) (lN (wST T q k)) (nI k) (rw1 (updN (bsT t k) 3 (eST t q k))) = fX5_storm_L122_b g (nI n) (nI T) (nI q) (fX5_storm_L122 g (nI n) (nI T) (nI q) f) (lN (wST T q k)) (nI k) (rw1 (updN (bsT t k) 3 (eST t q k))) := rfl
      rw [s1]
      unfold fX5_storm_L122_b fX5_has
      simp only [eb]
      rw [if_neg (nI_ge (by omega) (by omega)), bsT_s]
      by_cases b : q / 2 ^ k % 2 = 1
      · have e1 : eST t q (k + 1) = eST t q k := if_pos b
        have e2 : wST T q (k + 1) = wST T q k * 1 := by
          show wST T q k * (if q / 2 ^ k % 2 = 1 then 1 else T - 1) = _
          rw [if_pos b]
        rw [e1, e2]
        refine ⟨?_, he⟩
        simp only [if_pos b, bd1_s]
        rw [if_neg z10, mStorm wk hg, bd1_s, sd_ship, show (1 : Int64) = lN 1 from rfl, lN_mul, nI_1]
      · have e1 : eST t q (k + 1) = nxT (bsT t k) (eST t q k) := if_neg b
        have e2 : wST T q (k + 1) = wST T q k * (T - 1) := by
          show wST T q k * (if q / 2 ^ k % 2 = 1 then 1 else T - 1) = _
          rw [if_neg b]
        rw [e1, e2]
        refine ⟨?_, nx_lt he⟩
        simp only [if_neg b, bd1_s]
        rw [if_pos trivial, mDay wk hg, bd1_s, dy_ship, hT1, lN_mul, nI_1]
    rw [step.1]
    exact ih (k + 1) f (by omega) (by omega) step.2
def stG (t : Nat → Nat) (T n p : Nat) (q : Nat) : Nat := if eST t q n = t (4 + p) then wST T q n else 0
theorem mSets_L (w : WF t) (hg : big g) {n T p : Nat} (hn : n ≤ 7) (hT : 1 ≤ T) (hT2 : T ≤ 20) (hp : p < t 0) : ∀ (d k f x : Nat) (u : Nat → Nat), z45 u → k + d = 2 ^ n → d < f → ∃ v, fX5_storm_L97 g (nI p) (nI n) (nI T) (rw1 t) f (lN x) (nI k) (rw1 u) = some (lN (x + sF (stG t T n p) d k), rw1 v) ∧ z45 v := by
  have h6 := w.1
  have h128 := p7 hn
  have hg' : 100000000000000000000 ≤ g := hg
  have h4 := w.2.2.2.1 p hp
  have h3 := w.2.2.1
  have esh : ((1 : Int32) <<< (nI n &&& 31)) = nI (2 ^ n) := sh7 n hn
  intro d
  induction d with
  | zero =>
    intro k f x u hu hk hf
    obtain ⟨f, rfl⟩ : ∃ m, f = m + 1 := ⟨f - 1, by omega⟩
    refine ⟨u, ?_, hu⟩
    show fX5_storm_L97_b g (nI p) (nI n) (nI T) (rw1 t) _ (lN x) (nI k) (rw1 u) = _
    unfold fX5_storm_L97_b
    rw [esh, if_pos (nI_le (by omega) (by omega))]
    rfl
  | succ d ih =>
    intro k f x u hu hk hf
    obtain ⟨f, rfl⟩ : ∃ m, f = m + 1 := ⟨f - 1, by omega⟩
    obtain ⟨m1, m2⟩ := mPath_L (g := g) (t := t) (q := k) w hg hn hT hT2 (by omega) n 0 g (by omega) (by omega) h3
    have m1 : fX5_storm_L122 g (nI n) (nI T) (nI k) g 1 0 (rw1 t) = some (lN (wST T k n), rw1 (updN (bsT t n) 3 (eST t k n))) := by
      have e : updN (bsT t 0) 3 (eST t k 0) = t := up3s t
      rw [e] at m1
      exact m1
    have hz : z45 (updN (bsT t n) 3 (eST t k n)) := ((WF.bs w n).upd3 m2).z
    obtain ⟨v, h1, h2⟩ := ih (k + 1) f (x + stG t T n p k) _ hz (by omega) (by omega)
    refine ⟨v, ?_, h2⟩
    have e1 : x + stG t T n p k + sF (stG t T n p) d (k + 1) = x + sF (stG t T n p) (d + 1) k := by
      show _ = x + (stG t T n p k + sF (stG t T n p) d (k + 1))
      omega
    rw [e1] at h1
    rw [← h1]
    show fX5_storm_L97_b g (nI p) (nI n) (nI T) (rw1 t) (fX5_storm_L97 g (nI p) (nI n) (nI T) (rw1 t) f) (lN x) (nI k) (rw1 u) = _
    unfold fX5_storm_L97_b
    have x1 : (rw1 (updN (bsT t n) 3 (eST t k n)) 3 = nI (t (4 + p))) = (eST t k n = t (4 + p)) := by
      show (nI (updN (bsT t n) 3 (eST t k n) 3) = _) = _
      rw [updN_eq]
      exact n1 _ (by omega) (by omega)
    rw [esh, if_neg (nI_ge (by omega) (by omega)), mCopies hg w.z hu, bd1_s, m1, bd2_s, show (4 : Int32) + nI p = nI (4 + p) from nI_add 4 p, gdn (by omega) (by decide), nI_clamp (by omega), nI_1]
    show (if rw1 (updN (bsT t n) 3 (eST t k n)) 3 = nI (t (4 + p)) then _ else _) = _
    simp only [x1]
    unfold stG
    by_cases e : eST t k n = t (4 + p)
    · rw [if_pos e, if_pos e, lN_add]
    · rw [if_neg e, if_neg e, show (0 : Int64) = lN 0 from rfl, lN_add]
theorem oStorm (w : WF t) (hg : big g) (R : RV t np nh na ns nd nc nk nf nl nse) (rf : Nat → Int32) (p0 p1 p2 p3 : Int32) (tp th ta ts td tx ty : Int32) (tc tk tf tl te : Nat → Int32) (wA : Int64) (wC wN : Nat → Int64) {u : Nat → Nat} (hu : z45 u) : ∃ r u' rf' o1 o2 o3 o4 o5 o6 o7 o8 o9 o10 o11 o12 wA' wC' wN', fX4_storm g p0 p1 p2 p3 np nh na ns nd nc nk nf nl nse tp th ta ts td tx ty tc tk tf tl te wA wC wN rf = some (r, o1, o2, o3, o4, o5, o6, o7, o8, o9, o10, o11, o12, wA', wC', wN', rf') ∧ fX5_storm g p0 p1 p2 p3 (rw1 t) (rw1 u) rf = some (r, rw1 u', rf') ∧ z45 u' := by
  have h6 := w.1
  have hg' : 100000000000000000000 ≤ g := hg
  unfold fX4_storm fX5_storm
  rw [cNoPlace, bd1_s, cBelow, bd1_s, cFirst, bd1_s, cBelow, bd1_s, cFirst, bd1_s, cAbove, bd1_s, cFirst, bd1_s, cAbove, bd1_s, cFirst, bd1_s, cNoWhat, bd1_s, cFirst, bd1_s, R.1]
  have ref : ∀ (co : Int32), okc co → foF (foF (foF (foF (foF (nhF p0 (nI (t 0))) (beF p1 0)) (beF p2 2)) (avF p1 7)) (avF p2 20)) (nvF p3 2) = co → ∀ X, (if foF (foF (foF (foF (foF (nhF p0 (nI (t 0))) (beF p1 0)) (beF p2 2)) (avF p1 7)) (avF p2 20)) (nvF p3 2) = 0 then X else bd2 (fX4_refuseLong g (foF (foF (foF (foF (foF (nhF p0 (nI (t 0))) (beF p1 0)) (beF p2 2)) (avF p1 7)) (avF p2 20)) (nvF p3 2)) rf) fun r98 z => some (r98, tp, th, ta, ts, td, tx, ty, tc, tk, tf, tl, te, wA, wC, wN, z)) = some (4000000000000000000 - co.toInt64, tp, th, ta, ts, td, tx, ty, tc, tk, tf, tl, te, wA, wC, wN, rfz co rf) := by
    intro co hc e X
    rw [e, if_neg (okc_n hc), rL4 hc, bd2_s]
  rcases tri_or p0 (n := t 0) (by omega) with h | ⟨p, hp, rfl⟩
  · refine ⟨_, u, rfz (-1) rf, tp, th, ta, ts, td, tx, ty, tc, tk, tf, tl, te, wA, wC, wN, ref (-1) ok1 (by rw [nh_bad (by omega) h, fo_n ok1, fo_n ok1, fo_n ok1, fo_n ok1, fo_n ok1]) _, ?_, hu⟩
    rw [mPl_bad w h, bd1_s, if_pos z00, rL5 ok1, bd2_s]
  · rw [mPl_ok w hp, bd1_s, if_neg z10]
    have n0 : nhF (nI p) (nI (t 0)) = 0 := nh_ok hp (by omega)
    by_cases c1 : p1 < 0
    · have b1 : beF p1 0 = -4 := if_neg (fun h => Int32.lt_irrefl (Int32.lt_of_lt_of_le c1 h))
      refine ⟨_, u, rfz (-4) rf, tp, th, ta, ts, td, tx, ty, tc, tk, tf, tl, te, wA, wC, wN, ref (-4) ok4 (by rw [n0, fo_0, b1, fo_n ok4, fo_n ok4, fo_n ok4, fo_n ok4]) _, ?_, hu⟩
      rw [if_pos c1, rL5 ok4, bd2_s]
    · have b1 : beF p1 0 = 0 := if_pos (Int32.not_lt.mp c1)
      rw [if_neg c1]
      by_cases c2 : 2 ≤ p2
      · have b2 : beF p2 2 = 0 := if_pos c2
        rw [if_pos c2]
        by_cases c3 : 7 < p1
        · have b3 : avF p1 7 = -6 := if_neg (fun h => Int32.lt_irrefl (Int32.lt_of_lt_of_le c3 h))
          refine ⟨_, u, rfz (-6) rf, tp, th, ta, ts, td, tx, ty, tc, tk, tf, tl, te, wA, wC, wN, ref (-6) ok6 (by rw [n0, fo_0, b1, fo_0, b2, fo_0, b3, fo_n ok6, fo_n ok6]) _, ?_, hu⟩
          rw [if_pos c3, rL5 ok6, bd2_s]
        · have b3 : avF p1 7 = 0 := if_pos (Int32.not_lt.mp c3)
          rw [if_neg c3]
          by_cases c4 : p2 ≤ 20
          · have b4 : avF p2 20 = 0 := if_pos c4
            rw [if_pos c4]
            rcases tri_or p3 (n := 2) (by omega) with h | ⟨q, hq, rfl⟩
            · refine ⟨_, u, rfz (-2) rf, tp, th, ta, ts, td, tx, ty, tc, tk, tf, tl, te, wA, wC, wN, ref (-2) ok2 (by rw [n0, fo_0, b1, fo_0, b2, fo_0, b3, fo_0, b4, fo_0]; exact nw_bad (n := 2) (by omega) h) _, ?_, hu⟩
              rw [show fX5_isIn g p3 0 1 = some 0 from mIsIn_bad (n := 2) (by omega) h, bd1_s, if_pos z00, rL5 ok2, bd2_s]
            · obtain ⟨n, hn, rfl⟩ := nI_of c1
              have hn7 : n ≤ 7 := by
                rcases Nat.lt_or_ge 7 n with z | z
                · exact absurd (nI_lt (a := 7) z (by omega)) c3
                · exact z
              have hp2 : ¬ p2 < 0 := fun h => Int32.lt_irrefl (Int32.lt_of_lt_of_le h (Int32.le_trans (show (0 : Int32) ≤ 2 by decide) c2))
              obtain ⟨T, hT, rfl⟩ := nI_of hp2
              have hT20 : T ≤ 20 := by
                rcases Nat.lt_or_ge 20 T with z | z
                · exact absurd (show nI T ≤ nI 20 from c4) (nI_ge z (by omega))
                · exact z
              have hT2 : 2 ≤ T := by
                rcases Nat.lt_or_ge T 2 with z | z
                · exact absurd (show nI 2 ≤ nI T from c2) (nI_ge z (by omega))
                · exact z
              have h4 := w.2.2.2.1 p hp
              obtain ⟨c, k, f, l, se, t1, R1⟩ := vThink (g := g) w R tc tk tf tl te
              obtain ⟨ch, zx, s', d', x', y', se', t2, t3⟩ := vBlow (g := g) w hg hn7 (by omega) hT20 R1 wC wN tx ty
              obtain ⟨v, t4, t5⟩ := mSets_L (g := g) w hg hn7 (show 1 ≤ T by omega) hT20 hp (2 ^ n) 0 g 0 u hu (by omega) (by have := p7 hn7; omega)
              have e1 : ch (t (4 + p)) = lN (chT t T n (t (4 + p))) := t3 _ h4
              have e2 : chT t T n (t (4 + p)) = 0 + sF (stG t T n p) (2 ^ n) 0 := by
                rw [Nat.zero_add, ch_end w T n h4]
                rfl
              obtain ⟨l1, l2⟩ := ch_le w (show 1 ≤ T by omega) hT20 hn7 h4
              have hpos : 0 < T ^ n := Nat.pow_pos (by omega)
              obtain ⟨r, r1, r2⟩ := ptB (g := g) hg (a := chT t T n (t (4 + p))) (b := T ^ n) (q := q) (fun _ => by omega) (by omega) (by omega) hq
              refine ⟨r, v, rf, np, nh, na, s', d', x', y', c, k, f, l, se', lN (T ^ n), ch, zx, ?_, ?_, t5⟩
              · rw [n0, fo_0, b1, fo_0, b2, fo_0, b3, fo_0, b4, fo_0, show nvF (nI q) 2 = 0 from nw_ok (n := 2) hq (by omega), if_pos z00, ← R.1, t1, bd10_s, t2, bd8_s, gdn (by omega) (by decide), nI_clamp (by omega), R.2.2.2.2.2.1 p hp, gdn h4 (by decide), nI_clamp (by omega), e1, r1, bd1_s]
              · rw [show fX5_isIn g (nI q) 0 1 = some 1 from mIsIn_ok (n := 2) hq (by omega), bd1_s, if_neg z10]
                show bd1 (fX5_storm_L75 g (nI n) (nI T) g (lN 1) (nI 0)) _ = _
                rw [mPow_L hn7 hT20 n 0 g 1 (by omega) (by omega), bd1_s, Nat.one_mul]
                show bd2 (fX5_storm_L97 g (nI p) (nI n) (nI T) (rw1 t) g (lN 0) (nI 0) (rw1 u)) _ = _
                rw [t4, bd2_s, ← e2, r2, bd1_s]
          · have b4 : avF p2 20 = -6 := if_neg c4
            rw [if_neg c4]
            refine ⟨_, u, rfz (-6) rf, tp, th, ta, ts, td, tx, ty, tc, tk, tf, tl, te, wA, wC, wN, ref (-6) ok6 (by rw [n0, fo_0, b1, fo_0, b2, fo_0, b3, fo_0, b4, fo_n ok6]) _, ?_, hu⟩
            rw [rL5 ok6, bd2_s]
      · have b2 : beF p2 2 = -4 := if_neg c2
        rw [if_neg c2]
        refine ⟨_, u, rfz (-4) rf, tp, th, ta, ts, td, tx, ty, tc, tk, tf, tl, te, wA, wC, wN, ref (-4) ok4 (by rw [n0, fo_0, b1, fo_0, b2, fo_n ok4, fo_n ok4, fo_n ok4]) _, ?_, hu⟩
        rw [rL5 ok4, bd2_s]
end PC15
