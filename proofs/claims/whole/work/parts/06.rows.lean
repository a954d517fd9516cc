/-! ===== rows over this project's worlds ===== -/
abbrev inB (i : Int32) (n : Nat) : Prop := ¬ (i < 0 ∨ n ≤ i.toNatClampNeg)
theorem tab_d {offs : Array Int} {dflt lo hi : Int} {keys : List Int} {x : Int32} (hall : ∀ i, i < offs.size → offs[i]? = some dflt ∨ lo + (i : Int) ∈ keys) (hsz : hi = lo + (offs.size : Int) - 1) (hx : ∀ k ∈ keys, ¬ x.toInt = k) : (x.toInt < lo ∨ hi < x.toInt) ∨ (¬ x.toInt < lo ∧ ¬ hi < x.toInt ∧ offs[(x.toInt - lo).toNat]? = some dflt) := by
  by_cases h1 : x.toInt < lo
  · exact Or.inl (Or.inl h1)
  · by_cases h2 : hi < x.toInt
    · exact Or.inl (Or.inr h2)
    · refine Or.inr ⟨h1, h2, ?_⟩
      rcases hall (x.toInt - lo).toNat (by omega) with h | h
      · exact h
      · exact absurd (by omega) (hx _ h)
section PK3
variable {p : Program} {l : Launch} {e : Env} {R : Room} {s : State} {m : MethodId} {args : Array Value} {below : List Frame} {meth : Method} {c : Code} {H : Heap} {locs : List Loc} {cells slots : Nat} {Q : State → Prop}
variable {cc : ByteArray} {pc nL : Nat} {ls : Array Slot} {rest : List Value} {Ts : List Cond} {own : String} {D : va_G} {A : Nat → Prop} {wd : va_W} {cI cJ : ClassId} {a : Nat}
theorem lv_tabD {dflt lo hi : Int} {offs : Array Int} {len : Nat} {x : Int32} {tgt : Nat} (keys : List Int) (hexec : p.tables.exec = Jvm.exec) (hb : c.code = cc) (hdg : decode cc pc = .ok (.tableswitch dflt lo hi offs, len)) (hall : ∀ i, i < offs.size → offs[i]? = some dflt ∨ lo + (i : Int) ∈ keys) (hsz : hi = lo + (offs.size : Int) - 1) (hx : ∀ k ∈ keys, ¬ x.toInt = k) (ht : (pc : Int) + dflt = (tgt : Int))
    (k : W p l e R s m args below meth c H locs cells slots Q (F0 m tgt ls rest)) : W p l e R s m args below meth c H locs cells slots Q (F0 m pc ls (.int x :: rest)) := by
  rcases tab_d hall hsz hx with h | ⟨h1, h2, h3⟩
  · exact lv_tableOut hexec hb hdg h ht k
  · exact lv_tableIn hexec hb hdg h1 h2 h3 ht k
theorem r_ia (F : Cx p s m args c cc nL Ts own D (tyL cI cJ) A) (hP : WD D A wd H) (q0 : Nat) {n : Nat} {f : Nat → Int32} (ha : wd[q0]? = some (a, .inl (cI, n, .inl f))) {i : Int32} {j : Nat} (hj : i.toNatClampNeg = j) (hin : inB i n) (hdg : decode cc pc = .ok (.iaload, 1))
    (kk : W p l e R s m args below meth c H locs cells slots Q (F0 m (pc + 1) ls (.int (f j) :: rest))) : W p l e R s m args below meth c H locs cells slots Q (F0 m pc ls (.int i :: .ref a :: rest)) := by
  subst hj
  exact va_iald F.1.1 F.1.2.1 F.2.1 hP.1 q0 0 ha rfl hin hdg kk
theorem r_is (F : Cx p s m args c cc nL Ts own D (tyL cI cJ) A) (hP : WD D A wd H) (hS : va_S A s.heap H locs) (q0 : Nat) {n : Nat} {f : Nat → Int32} (ha : wd[q0]? = some (a, .inl (cI, n, .inl f))) {i x : Int32} {j : Nat} (hj : i.toNatClampNeg = j) (hin : inB i n) (hdg : decode cc pc = .ok (.iastore, 1))
    (kk : ∀ (H1 : Heap) (locs1 : List Loc), WD D A (wd.set q0 (a, .inl (cI, n, .inl (upd f j x)))) H1 → va_S A s.heap H1 locs1 → W p l e R s m args below meth c H1 locs1 cells slots Q (F0 m (pc + 1) ls rest)) : W p l e R s m args below meth c H locs cells slots Q (F0 m pc ls (.int x :: .int i :: .ref a :: rest)) := by
  subst hj
  exact va_iast F.1.1 F.1.2.1 F.2.1 hP.1 hP.2 hS q0 0 ha rfl hin hdg (fun H1 locs1 h1 h2 h3 => kk H1 locs1 ⟨h1, h2⟩ h3)
theorem r_la (F : Cx p s m args c cc nL Ts own D (tyL cI cJ) A) (hP : WD D A wd H) (q0 : Nat) {n : Nat} {f : Nat → Int64} (ha : wd[q0]? = some (a, .inl (cJ, n, .inr (.inl f)))) {i : Int32} {j : Nat} (hj : i.toNatClampNeg = j) (hin : inB i n) (hdg : decode cc pc = .ok (.laload, 1))
    (kk : W p l e R s m args below meth c H locs cells slots Q (F0 m (pc + 1) ls (.long (f j) :: rest))) : W p l e R s m args below meth c H locs cells slots Q (F0 m pc ls (.int i :: .ref a :: rest)) := by
  subst hj
  exact va_lald F.1.1 F.1.2.1 F.2.1 hP.1 q0 1 ha rfl hin hdg kk
theorem r_ls (F : Cx p s m args c cc nL Ts own D (tyL cI cJ) A) (hP : WD D A wd H) (hS : va_S A s.heap H locs) (q0 : Nat) {n : Nat} {f : Nat → Int64} (ha : wd[q0]? = some (a, .inl (cJ, n, .inr (.inl f)))) {i : Int32} {x : Int64} {j : Nat} (hj : i.toNatClampNeg = j) (hin : inB i n) (hdg : decode cc pc = .ok (.lastore, 1))
    (kk : ∀ (H1 : Heap) (locs1 : List Loc), WD D A (wd.set q0 (a, .inl (cJ, n, .inr (.inl (vp_updL f j x))))) H1 → va_S A s.heap H1 locs1 → W p l e R s m args below meth c H1 locs1 cells slots Q (F0 m (pc + 1) ls rest)) : W p l e R s m args below meth c H locs cells slots Q (F0 m pc ls (.long x :: .int i :: .ref a :: rest)) := by
  subst hj
  exact va_last F.1.1 F.1.2.1 F.2.1 hP.1 hP.2 hS q0 1 ha rfl hin hdg (fun H1 locs1 h1 h2 h3 => kk H1 locs1 ⟨h1, h2⟩ h3)
theorem r_ln (F : Cx p s m args c cc nL Ts own D (tyL cI cJ) A) (hP : WD D A wd H) (q0 : Nat) {n : Nat} {f : Nat → Int32} (ha : wd[q0]? = some (a, .inl (cI, n, .inl f))) {v : Int32} (hv : Int32.ofNat n = v) (hdg : decode cc pc = .ok (.arraylength, 1))
    (kk : W p l e R s m args below meth c H locs cells slots Q (F0 m (pc + 1) ls (.int v :: rest))) : W p l e R s m args below meth c H locs cells slots Q (F0 m pc ls (.ref a :: rest)) :=
  va_alen F.1.1 F.1.2.1 F.2.1 hP.1 q0 0 ha (ty := .int) rfl hv hdg kk

theorem r_cpi (F : Cx p s m args c cc nL Ts own D (tyL cI cJ) A) (hP : WD D A wd H) (hS : va_S A s.heap H locs) (hsz : ls.size = nL) {index : Nat} (hlink : Cond.methodLink own index arraycopyName ∈ Ts) (hnat : Cond.native arraycopyName ∈ Ts) (hstat : Cond.static arraycopyName ∈ Ts) (hini : Cond.initialized "java/lang/System" ∈ Ts) (q0 q1 : Nat) {a0 n0 : Nat} {f g : Nat → Int32} (ha0 : wd[q0]? = some (a0, .inl (cI, n0, .inl f))) (ha1 : wd[q1]? = some (a, .inl (cI, n0, .inl g)))
    {n : Int32} (h3 : ¬ n < 0) (hN : n.toNatClampNeg = n0) (hframes : 1 ≤ R.frames) (hlocals : (rest.map fun v => v.category).sum + 18 ≤ R.locals) (hdg : decode cc pc = .ok (.invokestatic index, 3))
    (kk : ∀ (H1 : Heap) (locs1 : List Loc), WD D A (wd.set q1 (a, .inl (cI, n0, .inl (va_cpy f g 0 0 n0)))) H1 → va_S A s.heap H1 locs1 → W p l e R s m args below meth c H1 locs1 cells slots Q (F0 m (pc + 3) ls rest)) : W p l e R s m args below meth c H locs cells slots Q (F0 m pc ls (.int n :: .int 0 :: .ref a :: .int 0 :: .ref a0 :: rest)) := by
  have hts := F.1.2.2.2.2
  have z0 : (0 : Int32).toNatClampNeg = 0 := rfl
  refine va_copyi F.1.1 F.1.2.1 (F.1.2.2.1.trans hsz.symm) F.1.2.2.2.1 (hts _ hlink) (hts _ hnat) (hts _ hstat) (hts _ hini) F.2.1 hP.1 hP.2 hS q0 q1 0 0 ha0 ha1 (ty := .int) rfl rfl rfl (by decide) (by decide) h3 (by rw [z0, hN]; omega) (by rw [z0, hN]; omega) (fun _ _ => rfl) hframes hlocals hdg (fun H1 locs1 h1 h2 h4 => ?_)
  rw [z0, hN] at h1 h2
  exact kk H1 locs1 ⟨h1, h2⟩ h4

theorem r_cpl (F : Cx p s m args c cc nL Ts own D (tyL cI cJ) A) (hP : WD D A wd H) (hS : va_S A s.heap H locs) (hsz : ls.size = nL) {index : Nat} (hlink : Cond.methodLink own index arraycopyName ∈ Ts) (hnat : Cond.native arraycopyName ∈ Ts) (hstat : Cond.static arraycopyName ∈ Ts) (hini : Cond.initialized "java/lang/System" ∈ Ts) (q0 q1 : Nat) {a0 n0 : Nat} {f g : Nat → Int64} (ha0 : wd[q0]? = some (a0, .inl (cJ, n0, .inr (.inl f)))) (ha1 : wd[q1]? = some (a, .inl (cJ, n0, .inr (.inl g))))
    {n : Int32} (h3 : ¬ n < 0) (hN : n.toNatClampNeg = n0) (hframes : 1 ≤ R.frames) (hlocals : (rest.map fun v => v.category).sum + 18 ≤ R.locals) (hdg : decode cc pc = .ok (.invokestatic index, 3))
    (kk : ∀ (H1 : Heap) (locs1 : List Loc), WD D A (wd.set q1 (a, .inl (cJ, n0, .inr (.inl (va_cpy f g 0 0 n0))))) H1 → va_S A s.heap H1 locs1 → W p l e R s m args below meth c H1 locs1 cells slots Q (F0 m (pc + 3) ls rest)) : W p l e R s m args below meth c H locs cells slots Q (F0 m pc ls (.int n :: .int 0 :: .ref a :: .int 0 :: .ref a0 :: rest)) := by
  have hts := F.1.2.2.2.2
  have z0 : (0 : Int32).toNatClampNeg = 0 := rfl
  refine va_copyl F.1.1 F.1.2.1 (F.1.2.2.1.trans hsz.symm) F.1.2.2.2.1 (hts _ hlink) (hts _ hnat) (hts _ hstat) (hts _ hini) F.2.1 hP.1 hP.2 hS q0 q1 1 1 ha0 ha1 (ty := .long) rfl rfl rfl (by decide) (by decide) h3 (by rw [z0, hN]; omega) (by rw [z0, hN]; omega) (fun _ _ => rfl) hframes hlocals hdg (fun H1 locs1 h1 h2 h4 => ?_)
  rw [z0, hN] at h1 h2
  exact kk H1 locs1 ⟨h1, h2⟩ h4

theorem r_mmax (F : Cx p s m args c cc nL Ts own D (tyL cI cJ) A) (hsz : ls.size = nL) {index : Nat} (hlink : Cond.methodLink own index Lib.Math.max.name ∈ Ts) (hstat : Cond.static Lib.Math.max.name ∈ Ts) (hini : Cond.initialized "java/lang/Math" ∈ Ts) (hcode : Cond.code Lib.Math.max.name Lib.Math.max.code 2 (some .int) ∈ Ts)
    (hframes : 1 ≤ R.frames) (hlocals : (rest.map fun v => v.category).sum + 13 ≤ R.locals) (hcs : cells ≤ R.cells ∧ slots ≤ R.slots) {x y : Int32} (hdg : decode cc pc = .ok (.invokestatic index, 3))
    (kk : W p l e R s m args below meth c H locs cells slots Q (F0 m (pc + 3) ls (.int (if x < y then y else x) :: rest))) : W p l e R s m args below meth c H locs cells slots Q (F0 m pc ls (.int y :: .int x :: rest)) :=
  va_mmax F.1.1 F.1.2.1 (F.1.2.2.1.trans hsz.symm) F.1.2.2.2.1 (F.1.2.2.2.2 _ hlink) (F.1.2.2.2.2 _ hstat) (F.1.2.2.2.2 _ hini) (F.1.2.2.2.2 _ hcode) hframes hlocals hcs.1 hcs.2 hdg kk

theorem r_mmin (F : Cx p s m args c cc nL Ts own D (tyL cI cJ) A) (hsz : ls.size = nL) {index : Nat} (hlink : Cond.methodLink own index Lib.Math.min.name ∈ Ts) (hstat : Cond.static Lib.Math.min.name ∈ Ts) (hini : Cond.initialized "java/lang/Math" ∈ Ts) (hcode : Cond.code Lib.Math.min.name Lib.Math.min.code 2 (some .int) ∈ Ts)
    (hframes : 1 ≤ R.frames) (hlocals : (rest.map fun v => v.category).sum + 13 ≤ R.locals) (hcs : cells ≤ R.cells ∧ slots ≤ R.slots) {x y : Int32} (hdg : decode cc pc = .ok (.invokestatic index, 3))
    (kk : W p l e R s m args below meth c H locs cells slots Q (F0 m (pc + 3) ls (.int (if y < x then y else x) :: rest))) : W p l e R s m args below meth c H locs cells slots Q (F0 m pc ls (.int y :: .int x :: rest)) :=
  va_mmin F.1.1 F.1.2.1 (F.1.2.2.1.trans hsz.symm) F.1.2.2.2.1 (F.1.2.2.2.2 _ hlink) (F.1.2.2.2.2 _ hstat) (F.1.2.2.2.2 _ hini) (F.1.2.2.2.2 _ hcode) hframes hlocals hcs.1 hcs.2 hdg kk

theorem r_mabs (F : Cx p s m args c cc nL Ts own D (tyL cI cJ) A) (hsz : ls.size = nL) {index : Nat} (hlink : Cond.methodLink own index Lib.Math.abs.name ∈ Ts) (hstat : Cond.static Lib.Math.abs.name ∈ Ts) (hini : Cond.initialized "java/lang/Math" ∈ Ts) (hcode : Cond.code Lib.Math.abs.name Lib.Math.abs.code 1 (some .int) ∈ Ts)
    (hframes : 1 ≤ R.frames) (hlocals : (rest.map fun v => v.category).sum + 13 ≤ R.locals) (hcs : cells ≤ R.cells ∧ slots ≤ R.slots) {x : Int32} (hdg : decode cc pc = .ok (.invokestatic index, 3))
    (kk : W p l e R s m args below meth c H locs cells slots Q (F0 m (pc + 3) ls (.int (if 0 ≤ x then x else 0 - x) :: rest))) : W p l e R s m args below meth c H locs cells slots Q (F0 m pc ls (.int x :: rest)) :=
  va_mabs F.1.1 F.1.2.1 (F.1.2.2.1.trans hsz.symm) F.1.2.2.2.1 (F.1.2.2.2.2 _ hlink) (F.1.2.2.2.2 _ hstat) (F.1.2.2.2.2 _ hini) (F.1.2.2.2.2 _ hcode) hframes hlocals hcs.1 hcs.2 hdg kk

end PK3
def bd0 {γ : Type} (x : Option (Unit)) (k : Option γ) : Option γ := match x with
  | some () => k
  | none => none
theorem bd0_e {γ : Type} {x : Option (Unit)} {k : Option γ} {y : γ} (h : bd0 x k = some y) : x = some () ∧ k = some y := by
  match x, h with
  | some (), h => exact ⟨rfl, h⟩
  | none, h => exact (no_some (show none = some y from h)).elim
theorem bd0_s {γ : Type} {k : Option γ}  : bd0 (some ()) k = k := rfl
def bs0 {ρ γ : Type} (x : Option ((Unit) ⊕ ρ)) (ret : ρ → Option γ) (k : Option γ) : Option γ := match x with
  | some (.inl ()) => k
  | some (.inr q) => ret q
  | none => none
theorem bs0_e {ρ γ : Type} {x : Option ((Unit) ⊕ ρ)} {ret : ρ → Option γ} {k : Option γ} {y : γ} (h : bs0 x ret k = some y) : ∃ z, x = some z ∧ (∀ (_ : Unit), z = .inl () → k = some y) ∧ (∀ q, z = .inr q → ret q = some y) := by
  match x, h with
  | some (.inl ()), h => exact ⟨_, rfl, fun _ e => (by cases e; exact h), fun _ e => (by cases e)⟩
  | some (.inr q), h => exact ⟨_, rfl, fun _ e => (by cases e), fun _ e => (by cases e; exact h)⟩
  | none, h => exact (no_some (show none = some y from h)).elim
def bd1 {α1 : Type} {γ : Type} (x : Option (α1)) (k : α1 → Option γ) : Option γ := match x with
  | some u1 => k u1
  | none => none
theorem bd1_e {α1 : Type} {γ : Type} {x : Option (α1)} {k : α1 → Option γ} {y : γ} (h : bd1 x k = some y) : ∃ u1, x = some u1 ∧ k u1 = some y := by
  match x, h with
  | some u1, h => exact ⟨u1, rfl, h⟩
  | none, h => exact (no_some (show none = some y from h)).elim
theorem bd1_s {α1 : Type} {γ : Type} {k : α1 → Option γ} {u1 : α1} : bd1 (some u1) k = k u1 := rfl
def bs1 {α1 : Type} {ρ γ : Type} (x : Option ((α1) ⊕ ρ)) (ret : ρ → Option γ) (k : α1 → Option γ) : Option γ := match x with
  | some (.inl u1) => k u1
  | some (.inr q) => ret q
  | none => none
theorem bs1_e {α1 : Type} {ρ γ : Type} {x : Option ((α1) ⊕ ρ)} {ret : ρ → Option γ} {k : α1 → Option γ} {y : γ} (h : bs1 x ret k = some y) : ∃ z, x = some z ∧ (∀ u1, z = .inl u1 → k u1 = some y) ∧ (∀ q, z = .inr q → ret q = some y) := by
  match x, h with
  | some (.inl u1), h => exact ⟨_, rfl, fun _ e => (by cases e; exact h), fun _ e => (by cases e)⟩
  | some (.inr q), h => exact ⟨_, rfl, fun _ e => (by cases e), fun _ e => (by cases e; exact h)⟩
  | none, h => exact (no_some (show none = some y from h)).elim
def bd2 {α1 α2 : Type} {γ : Type} (x : Option (α1 × α2)) (k : α1 → α2 → Option γ) : Option γ := match x with
  | some (u1, u2) => k u1 u2
  | none => none
theorem bd2_e {α1 α2 : Type} {γ : Type} {x : Option (α1 × α2)} {k : α1 → α2 → Option γ} {y : γ} (h : bd2 x k = some y) : ∃ u1 u2, x = some (u1, u2) ∧ k u1 u2 = some y := by
  match x, h with
  | some (u1, u2), h => exact ⟨u1, u2, rfl, h⟩
  | none, h => exact (no_some (show none = some y from h)).elim
theorem bd2_s {α1 α2 : Type} {γ : Type} {k : α1 → α2 → Option γ} {u1 : α1} {u2 : α2} : bd2 (some (u1, u2)) k = k u1 u2 := rfl
def bs2 {α1 α2 : Type} {ρ γ : Type} (x : Option ((α1 × α2) ⊕ ρ)) (ret : ρ → Option γ) (k : α1 → α2 → Option γ) : Option γ := match x with
  | some (.inl (u1, u2)) => k u1 u2
  | some (.inr q) => ret q
  | none => none
theorem bs2_e {α1 α2 : Type} {ρ γ : Type} {x : Option ((α1 × α2) ⊕ ρ)} {ret : ρ → Option γ} {k : α1 → α2 → Option γ} {y : γ} (h : bs2 x ret k = some y) : ∃ z, x = some z ∧ (∀ u1 u2, z = .inl (u1, u2) → k u1 u2 = some y) ∧ (∀ q, z = .inr q → ret q = some y) := by
  match x, h with
  | some (.inl (u1, u2)), h => exact ⟨_, rfl, fun _ _ e => (by cases e; exact h), fun _ e => (by cases e)⟩
  | some (.inr q), h => exact ⟨_, rfl, fun _ _ e => (by cases e), fun _ e => (by cases e; exact h)⟩
  | none, h => exact (no_some (show none = some y from h)).elim
def bd3 {α1 α2 α3 : Type} {γ : Type} (x : Option (α1 × α2 × α3)) (k : α1 → α2 → α3 → Option γ) : Option γ := match x with
  | some (u1, u2, u3) => k u1 u2 u3
  | none => none
theorem bd3_e {α1 α2 α3 : Type} {γ : Type} {x : Option (α1 × α2 × α3)} {k : α1 → α2 → α3 → Option γ} {y : γ} (h : bd3 x k = some y) : ∃ u1 u2 u3, x = some (u1, u2, u3) ∧ k u1 u2 u3 = some y := by
  match x, h with
  | some (u1, u2, u3), h => exact ⟨u1, u2, u3, rfl, h⟩
  | none, h => exact (no_some (show none = some y from h)).elim
theorem bd3_s {α1 α2 α3 : Type} {γ : Type} {k : α1 → α2 → α3 → Option γ} {u1 : α1} {u2 : α2} {u3 : α3} : bd3 (some (u1, u2, u3)) k = k u1 u2 u3 := rfl
def bs3 {α1 α2 α3 : Type} {ρ γ : Type} (x : Option ((α1 × α2 × α3) ⊕ ρ)) (ret : ρ → Option γ) (k : α1 → α2 → α3 → Option γ) : Option γ := match x with
  | some (.inl (u1, u2, u3)) => k u1 u2 u3
  | some (.inr q) => ret q
  | none => none
theorem bs3_e {α1 α2 α3 : Type} {ρ γ : Type} {x : Option ((α1 × α2 × α3) ⊕ ρ)} {ret : ρ → Option γ} {k : α1 → α2 → α3 → Option γ} {y : γ} (h : bs3 x ret k = some y) : ∃ z, x = some z ∧ (∀ u1 u2 u3, z = .inl (u1, u2, u3) → k u1 u2 u3 = some y) ∧ (∀ q, z = .inr q → ret q = some y) := by
  match x, h with
  | some (.inl (u1, u2, u3)), h => exact ⟨_, rfl, fun _ _ _ e => (by cases e; exact h), fun _ e => (by cases e)⟩
  | some (.inr q), h => exact ⟨_, rfl, fun _ _ _ e => (by cases e), fun _ e => (by cases e; exact h)⟩
  | none, h => exact (no_some (show none = some y from h)).elim
def bd4 {α1 α2 α3 α4 : Type} {γ : Type} (x : Option (α1 × α2 × α3 × α4)) (k : α1 → α2 → α3 → α4 → Option γ) : Option γ := match x with
  | some (u1, u2, u3, u4) => k u1 u2 u3 u4
  | none => none
theorem bd4_e {α1 α2 α3 α4 : Type} {γ : Type} {x : Option (α1 × α2 × α3 × α4)} {k : α1 → α2 → α3 → α4 → Option γ} {y : γ} (h : bd4 x k = some y) : ∃ u1 u2 u3 u4, x = some (u1, u2, u3, u4) ∧ k u1 u2 u3 u4 = some y := by
  match x, h with
  | some (u1, u2, u3, u4), h => exact ⟨u1, u2, u3, u4, rfl, h⟩
  | none, h => exact (no_some (show none = some y from h)).elim
theorem bd4_s {α1 α2 α3 α4 : Type} {γ : Type} {k : α1 → α2 → α3 → α4 → Option γ} {u1 : α1} {u2 : α2} {u3 : α3} {u4 : α4} : bd4 (some (u1, u2, u3, u4)) k = k u1 u2 u3 u4 := rfl
def bs4 {α1 α2 α3 α4 : Type} {ρ γ : Type} (x : Option ((α1 × α2 × α3 × α4) ⊕ ρ)) (ret : ρ → Option γ) (k : α1 → α2 → α3 → α4 → Option γ) : Option γ := match x with
  | some (.inl (u1, u2, u3, u4)) => k u1 u2 u3 u4
  | some (.inr q) => ret q
  | none => none
theorem bs4_e {α1 α2 α3 α4 : Type} {ρ γ : Type} {x : Option ((α1 × α2 × α3 × α4) ⊕ ρ)} {ret : ρ → Option γ} {k : α1 → α2 → α3 → α4 → Option γ} {y : γ} (h : bs4 x ret k = some y) : ∃ z, x = some z ∧ (∀ u1 u2 u3 u4, z = .inl (u1, u2, u3, u4) → k u1 u2 u3 u4 = some y) ∧ (∀ q, z = .inr q → ret q = some y) := by
  match x, h with
  | some (.inl (u1, u2, u3, u4)), h => exact ⟨_, rfl, fun _ _ _ _ e => (by cases e; exact h), fun _ e => (by cases e)⟩
  | some (.inr q), h => exact ⟨_, rfl, fun _ _ _ _ e => (by cases e), fun _ e => (by cases e; exact h)⟩
  | none, h => exact (no_some (show none = some y from h)).elim
def bd5 {α1 α2 α3 α4 α5 : Type} {γ : Type} (x : Option (α1 × α2 × α3 × α4 × α5)) (k : α1 → α2 → α3 → α4 → α5 → Option γ) : Option γ := match x with
  | some (u1, u2, u3, u4, u5) => k u1 u2 u3 u4 u5
  | none => none
theorem bd5_e {α1 α2 α3 α4 α5 : Type} {γ : Type} {x : Option (α1 × α2 × α3 × α4 × α5)} {k : α1 → α2 → α3 → α4 → α5 → Option γ} {y : γ} (h : bd5 x k = some y) : ∃ u1 u2 u3 u4 u5, x = some (u1, u2, u3, u4, u5) ∧ k u1 u2 u3 u4 u5 = some y := by
  match x, h with
  | some (u1, u2, u3, u4, u5), h => exact ⟨u1, u2, u3, u4, u5, rfl, h⟩
  | none, h => exact (no_some (show none = some y from h)).elim
theorem bd5_s {α1 α2 α3 α4 α5 : Type} {γ : Type} {k : α1 → α2 → α3 → α4 → α5 → Option γ} {u1 : α1} {u2 : α2} {u3 : α3} {u4 : α4} {u5 : α5} : bd5 (some (u1, u2, u3, u4, u5)) k = k u1 u2 u3 u4 u5 := rfl
def bs5 {α1 α2 α3 α4 α5 : Type} {ρ γ : Type} (x : Option ((α1 × α2 × α3 × α4 × α5) ⊕ ρ)) (ret : ρ → Option γ) (k : α1 → α2 → α3 → α4 → α5 → Option γ) : Option γ := match x with
  | some (.inl (u1, u2, u3, u4, u5)) => k u1 u2 u3 u4 u5
  | some (.inr q) => ret q
  | none => none
theorem bs5_e {α1 α2 α3 α4 α5 : Type} {ρ γ : Type} {x : Option ((α1 × α2 × α3 × α4 × α5) ⊕ ρ)} {ret : ρ → Option γ} {k : α1 → α2 → α3 → α4 → α5 → Option γ} {y : γ} (h : bs5 x ret k = some y) : ∃ z, x = some z ∧ (∀ u1 u2 u3 u4 u5, z = .inl (u1, u2, u3, u4, u5) → k u1 u2 u3 u4 u5 = some y) ∧ (∀ q, z = .inr q → ret q = some y) := by
  match x, h with
  | some (.inl (u1, u2, u3, u4, u5)), h => exact ⟨_, rfl, fun _ _ _ _ _ e => (by cases e; exact h), fun _ e => (by cases e)⟩
  | some (.inr q), h => exact ⟨_, rfl, fun _ _ _ _ _ e => (by cases e), fun _ e => (by cases e; exact h)⟩
  | none, h => exact (no_some (show none = some y from h)).elim
def bd6 {α1 α2 α3 α4 α5 α6 : Type} {γ : Type} (x : Option (α1 × α2 × α3 × α4 × α5 × α6)) (k : α1 → α2 → α3 → α4 → α5 → α6 → Option γ) : Option γ := match x with
  | some (u1, u2, u3, u4, u5, u6) => k u1 u2 u3 u4 u5 u6
  | none => none
theorem bd6_e {α1 α2 α3 α4 α5 α6 : Type} {γ : Type} {x : Option (α1 × α2 × α3 × α4 × α5 × α6)} {k : α1 → α2 → α3 → α4 → α5 → α6 → Option γ} {y : γ} (h : bd6 x k = some y) : ∃ u1 u2 u3 u4 u5 u6, x = some (u1, u2, u3, u4, u5, u6) ∧ k u1 u2 u3 u4 u5 u6 = some y := by
  match x, h with
  | some (u1, u2, u3, u4, u5, u6), h => exact ⟨u1, u2, u3, u4, u5, u6, rfl, h⟩
  | none, h => exact (no_some (show none = some y from h)).elim
theorem bd6_s {α1 α2 α3 α4 α5 α6 : Type} {γ : Type} {k : α1 → α2 → α3 → α4 → α5 → α6 → Option γ} {u1 : α1} {u2 : α2} {u3 : α3} {u4 : α4} {u5 : α5} {u6 : α6} : bd6 (some (u1, u2, u3, u4, u5, u6)) k = k u1 u2 u3 u4 u5 u6 := rfl
def bs6 {α1 α2 α3 α4 α5 α6 : Type} {ρ γ : Type} (x : Option ((α1 × α2 × α3 × α4 × α5 × α6) ⊕ ρ)) (ret : ρ → Option γ) (k : α1 → α2 → α3 → α4 → α5 → α6 → Option γ) : Option γ := match x with
  | some (.inl (u1, u2, u3, u4, u5, u6)) => k u1 u2 u3 u4 u5 u6
  | some (.inr q) => ret q
  | none => none
theorem bs6_e {α1 α2 α3 α4 α5 α6 : Type} {ρ γ : Type} {x : Option ((α1 × α2 × α3 × α4 × α5 × α6) ⊕ ρ)} {ret : ρ → Option γ} {k : α1 → α2 → α3 → α4 → α5 → α6 → Option γ} {y : γ} (h : bs6 x ret k = some y) : ∃ z, x = some z ∧ (∀ u1 u2 u3 u4 u5 u6, z = .inl (u1, u2, u3, u4, u5, u6) → k u1 u2 u3 u4 u5 u6 = some y) ∧ (∀ q, z = .inr q → ret q = some y) := by
  match x, h with
  | some (.inl (u1, u2, u3, u4, u5, u6)), h => exact ⟨_, rfl, fun _ _ _ _ _ _ e => (by cases e; exact h), fun _ e => (by cases e)⟩
  | some (.inr q), h => exact ⟨_, rfl, fun _ _ _ _ _ _ e => (by cases e), fun _ e => (by cases e; exact h)⟩
  | none, h => exact (no_some (show none = some y from h)).elim
def bd7 {α1 α2 α3 α4 α5 α6 α7 : Type} {γ : Type} (x : Option (α1 × α2 × α3 × α4 × α5 × α6 × α7)) (k : α1 → α2 → α3 → α4 → α5 → α6 → α7 → Option γ) : Option γ := match x with
  | some (u1, u2, u3, u4, u5, u6, u7) => k u1 u2 u3 u4 u5 u6 u7
  | none => none
theorem bd7_e {α1 α2 α3 α4 α5 α6 α7 : Type} {γ : Type} {x : Option (α1 × α2 × α3 × α4 × α5 × α6 × α7)} {k : α1 → α2 → α3 → α4 → α5 → α6 → α7 → Option γ} {y : γ} (h : bd7 x k = some y) : ∃ u1 u2 u3 u4 u5 u6 u7, x = some (u1, u2, u3, u4, u5, u6, u7) ∧ k u1 u2 u3 u4 u5 u6 u7 = some y := by
  match x, h with
  | some (u1, u2, u3, u4, u5, u6, u7), h => exact ⟨u1, u2, u3, u4, u5, u6, u7, rfl, h⟩
  | none, h => exact (no_some (show none = some y from h)).elim
theorem bd7_s {α1 α2 α3 α4 α5 α6 α7 : Type} {γ : Type} {k : α1 → α2 → α3 → α4 → α5 → α6 → α7 → Option γ} {u1 : α1} {u2 : α2} {u3 : α3} {u4 : α4} {u5 : α5} {u6 : α6} {u7 : α7} : bd7 (some (u1, u2, u3, u4, u5, u6, u7)) k = k u1 u2 u3 u4 u5 u6 u7 := rfl
def bs7 {α1 α2 α3 α4 α5 α6 α7 : Type} {ρ γ : Type} (x : Option ((α1 × α2 × α3 × α4 × α5 × α6 × α7) ⊕ ρ)) (ret : ρ → Option γ) (k : α1 → α2 → α3 → α4 → α5 → α6 → α7 → Option γ) : Option γ := match x with
  | some (.inl (u1, u2, u3, u4, u5, u6, u7)) => k u1 u2 u3 u4 u5 u6 u7
  | some (.inr q) => ret q
  | none => none
theorem bs7_e {α1 α2 α3 α4 α5 α6 α7 : Type} {ρ γ : Type} {x : Option ((α1 × α2 × α3 × α4 × α5 × α6 × α7) ⊕ ρ)} {ret : ρ → Option γ} {k : α1 → α2 → α3 → α4 → α5 → α6 → α7 → Option γ} {y : γ} (h : bs7 x ret k = some y) : ∃ z, x = some z ∧ (∀ u1 u2 u3 u4 u5 u6 u7, z = .inl (u1, u2, u3, u4, u5, u6, u7) → k u1 u2 u3 u4 u5 u6 u7 = some y) ∧ (∀ q, z = .inr q → ret q = some y) := by
  match x, h with
  | some (.inl (u1, u2, u3, u4, u5, u6, u7)), h => exact ⟨_, rfl, fun _ _ _ _ _ _ _ e => (by cases e; exact h), fun _ e => (by cases e)⟩
  | some (.inr q), h => exact ⟨_, rfl, fun _ _ _ _ _ _ _ e => (by cases e), fun _ e => (by cases e; exact h)⟩
  | none, h => exact (no_some (show none = some y from h)).elim
def bd8 {α1 α2 α3 α4 α5 α6 α7 α8 : Type} {γ : Type} (x : Option (α1 × α2 × α3 × α4 × α5 × α6 × α7 × α8)) (k : α1 → α2 → α3 → α4 → α5 → α6 → α7 → α8 → Option γ) : Option γ := match x with
  | some (u1, u2, u3, u4, u5, u6, u7, u8) => k u1 u2 u3 u4 u5 u6 u7 u8
  | none => none
theorem bd8_e {α1 α2 α3 α4 α5 α6 α7 α8 : Type} {γ : Type} {x : Option (α1 × α2 × α3 × α4 × α5 × α6 × α7 × α8)} {k : α1 → α2 → α3 → α4 → α5 → α6 → α7 → α8 → Option γ} {y : γ} (h : bd8 x k = some y) : ∃ u1 u2 u3 u4 u5 u6 u7 u8, x = some (u1, u2, u3, u4, u5, u6, u7, u8) ∧ k u1 u2 u3 u4 u5 u6 u7 u8 = some y := by
  match x, h with
  | some (u1, u2, u3, u4, u5, u6, u7, u8), h => exact ⟨u1, u2, u3, u4, u5, u6, u7, u8, rfl, h⟩
  | none, h => exact (no_some (show none = some y from h)).elim
theorem bd8_s {α1 α2 α3 α4 α5 α6 α7 α8 : Type} {γ : Type} {k : α1 → α2 → α3 → α4 → α5 → α6 → α7 → α8 → Option γ} {u1 : α1} {u2 : α2} {u3 : α3} {u4 : α4} {u5 : α5} {u6 : α6} {u7 : α7} {u8 : α8} : bd8 (some (u1, u2, u3, u4, u5, u6, u7, u8)) k = k u1 u2 u3 u4 u5 u6 u7 u8 := rfl
def bs8 {α1 α2 α3 α4 α5 α6 α7 α8 : Type} {ρ γ : Type} (x : Option ((α1 × α2 × α3 × α4 × α5 × α6 × α7 × α8) ⊕ ρ)) (ret : ρ → Option γ) (k : α1 → α2 → α3 → α4 → α5 → α6 → α7 → α8 → Option γ) : Option γ := match x with
  | some (.inl (u1, u2, u3, u4, u5, u6, u7, u8)) => k u1 u2 u3 u4 u5 u6 u7 u8
  | some (.inr q) => ret q
  | none => none
theorem bs8_e {α1 α2 α3 α4 α5 α6 α7 α8 : Type} {ρ γ : Type} {x : Option ((α1 × α2 × α3 × α4 × α5 × α6 × α7 × α8) ⊕ ρ)} {ret : ρ → Option γ} {k : α1 → α2 → α3 → α4 → α5 → α6 → α7 → α8 → Option γ} {y : γ} (h : bs8 x ret k = some y) : ∃ z, x = some z ∧ (∀ u1 u2 u3 u4 u5 u6 u7 u8, z = .inl (u1, u2, u3, u4, u5, u6, u7, u8) → k u1 u2 u3 u4 u5 u6 u7 u8 = some y) ∧ (∀ q, z = .inr q → ret q = some y) := by
  match x, h with
  | some (.inl (u1, u2, u3, u4, u5, u6, u7, u8)), h => exact ⟨_, rfl, fun _ _ _ _ _ _ _ _ e => (by cases e; exact h), fun _ e => (by cases e)⟩
  | some (.inr q), h => exact ⟨_, rfl, fun _ _ _ _ _ _ _ _ e => (by cases e), fun _ e => (by cases e; exact h)⟩
  | none, h => exact (no_some (show none = some y from h)).elim
def bd9 {α1 α2 α3 α4 α5 α6 α7 α8 α9 : Type} {γ : Type} (x : Option (α1 × α2 × α3 × α4 × α5 × α6 × α7 × α8 × α9)) (k : α1 → α2 → α3 → α4 → α5 → α6 → α7 → α8 → α9 → Option γ) : Option γ := match x with
  | some (u1, u2, u3, u4, u5, u6, u7, u8, u9) => k u1 u2 u3 u4 u5 u6 u7 u8 u9
  | none => none
theorem bd9_e {α1 α2 α3 α4 α5 α6 α7 α8 α9 : Type} {γ : Type} {x : Option (α1 × α2 × α3 × α4 × α5 × α6 × α7 × α8 × α9)} {k : α1 → α2 → α3 → α4 → α5 → α6 → α7 → α8 → α9 → Option γ} {y : γ} (h : bd9 x k = some y) : ∃ u1 u2 u3 u4 u5 u6 u7 u8 u9, x = some (u1, u2, u3, u4, u5, u6, u7, u8, u9) ∧ k u1 u2 u3 u4 u5 u6 u7 u8 u9 = some y := by
  match x, h with
  | some (u1, u2, u3, u4, u5, u6, u7, u8, u9), h => exact ⟨u1, u2, u3, u4, u5, u6, u7, u8, u9, rfl, h⟩
  | none, h => exact (no_some (show none = some y from h)).elim
theorem bd9_s {α1 α2 α3 α4 α5 α6 α7 α8 α9 : Type} {γ : Type} {k : α1 → α2 → α3 → α4 → α5 → α6 → α7 → α8 → α9 → Option γ} {u1 : α1} {u2 : α2} {u3 : α3} {u4 : α4} {u5 : α5} {u6 : α6} {u7 : α7} {u8 : α8} {u9 : α9} : bd9 (some (u1, u2, u3, u4, u5, u6, u7, u8, u9)) k = k u1 u2 u3 u4 u5 u6 u7 u8 u9 := rfl
def bs9 {α1 α2 α3 α4 α5 α6 α7 α8 α9 : Type} {ρ γ : Type} (x : Option ((α1 × α2 × α3 × α4 × α5 × α6 × α7 × α8 × α9) ⊕ ρ)) (ret : ρ → Option γ) (k : α1 → α2 → α3 → α4 → α5 → α6 → α7 → α8 → α9 → Option γ) : Option γ := match x with
  | some (.inl (u1, u2, u3, u4, u5, u6, u7, u8, u9)) => k u1 u2 u3 u4 u5 u6 u7 u8 u9
  | some (.inr q) => ret q
  | none => none
theorem bs9_e {α1 α2 α3 α4 α5 α6 α7 α8 α9 : Type} {ρ γ : Type} {x : Option ((α1 × α2 × α3 × α4 × α5 × α6 × α7 × α8 × α9) ⊕ ρ)} {ret : ρ → Option γ} {k : α1 → α2 → α3 → α4 → α5 → α6 → α7 → α8 → α9 → Option γ} {y : γ} (h : bs9 x ret k = some y) : ∃ z, x = some z ∧ (∀ u1 u2 u3 u4 u5 u6 u7 u8 u9, z = .inl (u1, u2, u3, u4, u5, u6, u7, u8, u9) → k u1 u2 u3 u4 u5 u6 u7 u8 u9 = some y) ∧ (∀ q, z = .inr q → ret q = some y) := by
  match x, h with
  | some (.inl (u1, u2, u3, u4, u5, u6, u7, u8, u9)), h => exact ⟨_, rfl, fun _ _ _ _ _ _ _ _ _ e => (by cases e; exact h), fun _ e => (by cases e)⟩
  | some (.inr q), h => exact ⟨_, rfl, fun _ _ _ _ _ _ _ _ _ e => (by cases e), fun _ e => (by cases e; exact h)⟩
  | none, h => exact (no_some (show none = some y from h)).elim
def bd10 {α1 α2 α3 α4 α5 α6 α7 α8 α9 α10 : Type} {γ : Type} (x : Option (α1 × α2 × α3 × α4 × α5 × α6 × α7 × α8 × α9 × α10)) (k : α1 → α2 → α3 → α4 → α5 → α6 → α7 → α8 → α9 → α10 → Option γ) : Option γ := match x with
  | some (u1, u2, u3, u4, u5, u6, u7, u8, u9, u10) => k u1 u2 u3 u4 u5 u6 u7 u8 u9 u10
  | none => none
theorem bd10_e {α1 α2 α3 α4 α5 α6 α7 α8 α9 α10 : Type} {γ : Type} {x : Option (α1 × α2 × α3 × α4 × α5 × α6 × α7 × α8 × α9 × α10)} {k : α1 → α2 → α3 → α4 → α5 → α6 → α7 → α8 → α9 → α10 → Option γ} {y : γ} (h : bd10 x k = some y) : ∃ u1 u2 u3 u4 u5 u6 u7 u8 u9 u10, x = some (u1, u2, u3, u4, u5, u6, u7, u8, u9, u10) ∧ k u1 u2 u3 u4 u5 u6 u7 u8 u9 u10 = some y := by
  match x, h with
  | some (u1, u2, u3, u4, u5, u6, u7, u8, u9, u10), h => exact ⟨u1, u2, u3, u4, u5, u6, u7, u8, u9, u10, rfl, h⟩
  | none, h => exact (no_some (show none = some y from h)).elim
theorem bd10_s {α1 α2 α3 α4 α5 α6 α7 α8 α9 α10 : Type} {γ : Type} {k : α1 → α2 → α3 → α4 → α5 → α6 → α7 → α8 → α9 → α10 → Option γ} {u1 : α1} {u2 : α2} {u3 : α3} {u4 : α4} {u5 : α5} {u6 : α6} {u7 : α7} {u8 : α8} {u9 : α9} {u10 : α10} : bd10 (some (u1, u2, u3, u4, u5, u6, u7, u8, u9, u10)) k = k u1 u2 u3 u4 u5 u6 u7 u8 u9 u10 := rfl
def bs10 {α1 α2 α3 α4 α5 α6 α7 α8 α9 α10 : Type} {ρ γ : Type} (x : Option ((α1 × α2 × α3 × α4 × α5 × α6 × α7 × α8 × α9 × α10) ⊕ ρ)) (ret : ρ → Option γ) (k : α1 → α2 → α3 → α4 → α5 → α6 → α7 → α8 → α9 → α10 → Option γ) : Option γ := match x with
  | some (.inl (u1, u2, u3, u4, u5, u6, u7, u8, u9, u10)) => k u1 u2 u3 u4 u5 u6 u7 u8 u9 u10
  | some (.inr q) => ret q
  | none => none
theorem bs10_e {α1 α2 α3 α4 α5 α6 α7 α8 α9 α10 : Type} {ρ γ : Type} {x : Option ((α1 × α2 × α3 × α4 × α5 × α6 × α7 × α8 × α9 × α10) ⊕ ρ)} {ret : ρ → Option γ} {k : α1 → α2 → α3 → α4 → α5 → α6 → α7 → α8 → α9 → α10 → Option γ} {y : γ} (h : bs10 x ret k = some y) : ∃ z, x = some z ∧ (∀ u1 u2 u3 u4 u5 u6 u7 u8 u9 u10, z = .inl (u1, u2, u3, u4, u5, u6, u7, u8, u9, u10) → k u1 u2 u3 u4 u5 u6 u7 u8 u9 u10 = some y) ∧ (∀ q, z = .inr q → ret q = some y) := by
  match x, h with
  | some (.inl (u1, u2, u3, u4, u5, u6, u7, u8, u9, u10)), h => exact ⟨_, rfl, fun _ _ _ _ _ _ _ _ _ _ e => (by cases e; exact h), fun _ e => (by cases e)⟩
  | some (.inr q), h => exact ⟨_, rfl, fun _ _ _ _ _ _ _ _ _ _ e => (by cases e), fun _ e => (by cases e; exact h)⟩
  | none, h => exact (no_some (show none = some y from h)).elim
def bd11 {α1 α2 α3 α4 α5 α6 α7 α8 α9 α10 α11 : Type} {γ : Type} (x : Option (α1 × α2 × α3 × α4 × α5 × α6 × α7 × α8 × α9 × α10 × α11)) (k : α1 → α2 → α3 → α4 → α5 → α6 → α7 → α8 → α9 → α10 → α11 → Option γ) : Option γ := match x with
  | some (u1, u2, u3, u4, u5, u6, u7, u8, u9, u10, u11) => k u1 u2 u3 u4 u5 u6 u7 u8 u9 u10 u11
  | none => none
theorem bd11_e {α1 α2 α3 α4 α5 α6 α7 α8 α9 α10 α11 : Type} {γ : Type} {x : Option (α1 × α2 × α3 × α4 × α5 × α6 × α7 × α8 × α9 × α10 × α11)} {k : α1 → α2 → α3 → α4 → α5 → α6 → α7 → α8 → α9 → α10 → α11 → Option γ} {y : γ} (h : bd11 x k = some y) : ∃ u1 u2 u3 u4 u5 u6 u7 u8 u9 u10 u11, x = some (u1, u2, u3, u4, u5, u6, u7, u8, u9, u10, u11) ∧ k u1 u2 u3 u4 u5 u6 u7 u8 u9 u10 u11 = some y := by
  match x, h with
  | some (u1, u2, u3, u4, u5, u6, u7, u8, u9, u10, u11), h => exact ⟨u1, u2, u3, u4, u5, u6, u7, u8, u9, u10, u11, rfl, h⟩
  | none, h => exact (no_some (show none = some y from h)).elim
theorem bd11_s {α1 α2 α3 α4 α5 α6 α7 α8 α9 α10 α11 : Type} {γ : Type} {k : α1 → α2 → α3 → α4 → α5 → α6 → α7 → α8 → α9 → α10 → α11 → Option γ} {u1 : α1} {u2 : α2} {u3 : α3} {u4 : α4} {u5 : α5} {u6 : α6} {u7 : α7} {u8 : α8} {u9 : α9} {u10 : α10} {u11 : α11} : bd11 (some (u1, u2, u3, u4, u5, u6, u7, u8, u9, u10, u11)) k = k u1 u2 u3 u4 u5 u6 u7 u8 u9 u10 u11 := rfl
def bs11 {α1 α2 α3 α4 α5 α6 α7 α8 α9 α10 α11 : Type} {ρ γ : Type} (x : Option ((α1 × α2 × α3 × α4 × α5 × α6 × α7 × α8 × α9 × α10 × α11) ⊕ ρ)) (ret : ρ → Option γ) (k : α1 → α2 → α3 → α4 → α5 → α6 → α7 → α8 → α9 → α10 → α11 → Option γ) : Option γ := match x with
  | some (.inl (u1, u2, u3, u4, u5, u6, u7, u8, u9, u10, u11)) => k u1 u2 u3 u4 u5 u6 u7 u8 u9 u10 u11
  | some (.inr q) => ret q
  | none => none
theorem bs11_e {α1 α2 α3 α4 α5 α6 α7 α8 α9 α10 α11 : Type} {ρ γ : Type} {x : Option ((α1 × α2 × α3 × α4 × α5 × α6 × α7 × α8 × α9 × α10 × α11) ⊕ ρ)} {ret : ρ → Option γ} {k : α1 → α2 → α3 → α4 → α5 → α6 → α7 → α8 → α9 → α10 → α11 → Option γ} {y : γ} (h : bs11 x ret k = some y) : ∃ z, x = some z ∧ (∀ u1 u2 u3 u4 u5 u6 u7 u8 u9 u10 u11, z = .inl (u1, u2, u3, u4, u5, u6, u7, u8, u9, u10, u11) → k u1 u2 u3 u4 u5 u6 u7 u8 u9 u10 u11 = some y) ∧ (∀ q, z = .inr q → ret q = some y) := by
  match x, h with
  | some (.inl (u1, u2, u3, u4, u5, u6, u7, u8, u9, u10, u11)), h => exact ⟨_, rfl, fun _ _ _ _ _ _ _ _ _ _ _ e => (by cases e; exact h), fun _ e => (by cases e)⟩
  | some (.inr q), h => exact ⟨_, rfl, fun _ _ _ _ _ _ _ _ _ _ _ e => (by cases e), fun _ e => (by cases e; exact h)⟩
  | none, h => exact (no_some (show none = some y from h)).elim
def bd12 {α1 α2 α3 α4 α5 α6 α7 α8 α9 α10 α11 α12 : Type} {γ : Type} (x : Option (α1 × α2 × α3 × α4 × α5 × α6 × α7 × α8 × α9 × α10 × α11 × α12)) (k : α1 → α2 → α3 → α4 → α5 → α6 → α7 → α8 → α9 → α10 → α11 → α12 → Option γ) : Option γ := match x with
  | some (u1, u2, u3, u4, u5, u6, u7, u8, u9, u10, u11, u12) => k u1 u2 u3 u4 u5 u6 u7 u8 u9 u10 u11 u12
  | none => none
theorem bd12_e {α1 α2 α3 α4 α5 α6 α7 α8 α9 α10 α11 α12 : Type} {γ : Type} {x : Option (α1 × α2 × α3 × α4 × α5 × α6 × α7 × α8 × α9 × α10 × α11 × α12)} {k : α1 → α2 → α3 → α4 → α5 → α6 → α7 → α8 → α9 → α10 → α11 → α12 → Option γ} {y : γ} (h : bd12 x k = some y) : ∃ u1 u2 u3 u4 u5 u6 u7 u8 u9 u10 u11 u12, x = some (u1, u2, u3, u4, u5, u6, u7, u8, u9, u10, u11, u12) ∧ k u1 u2 u3 u4 u5 u6 u7 u8 u9 u10 u11 u12 = some y := by
  match x, h with
  | some (u1, u2, u3, u4, u5, u6, u7, u8, u9, u10, u11, u12), h => exact ⟨u1, u2, u3, u4, u5, u6, u7, u8, u9, u10, u11, u12, rfl, h⟩
  | none, h => exact (no_some (show none = some y from h)).elim
theorem bd12_s {α1 α2 α3 α4 α5 α6 α7 α8 α9 α10 α11 α12 : Type} {γ : Type} {k : α1 → α2 → α3 → α4 → α5 → α6 → α7 → α8 → α9 → α10 → α11 → α12 → Option γ} {u1 : α1} {u2 : α2} {u3 : α3} {u4 : α4} {u5 : α5} {u6 : α6} {u7 : α7} {u8 : α8} {u9 : α9} {u10 : α10} {u11 : α11} {u12 : α12} : bd12 (some (u1, u2, u3, u4, u5, u6, u7, u8, u9, u10, u11, u12)) k = k u1 u2 u3 u4 u5 u6 u7 u8 u9 u10 u11 u12 := rfl
def bs12 {α1 α2 α3 α4 α5 α6 α7 α8 α9 α10 α11 α12 : Type} {ρ γ : Type} (x : Option ((α1 × α2 × α3 × α4 × α5 × α6 × α7 × α8 × α9 × α10 × α11 × α12) ⊕ ρ)) (ret : ρ → Option γ) (k : α1 → α2 → α3 → α4 → α5 → α6 → α7 → α8 → α9 → α10 → α11 → α12 → Option γ) : Option γ := match x with
  | some (.inl (u1, u2, u3, u4, u5, u6, u7, u8, u9, u10, u11, u12)) => k u1 u2 u3 u4 u5 u6 u7 u8 u9 u10 u11 u12
  | some (.inr q) => ret q
  | none => none
theorem bs12_e {α1 α2 α3 α4 α5 α6 α7 α8 α9 α10 α11 α12 : Type} {ρ γ : Type} {x : Option ((α1 × α2 × α3 × α4 × α5 × α6 × α7 × α8 × α9 × α10 × α11 × α12) ⊕ ρ)} {ret : ρ → Option γ} {k : α1 → α2 → α3 → α4 → α5 → α6 → α7 → α8 → α9 → α10 → α11 → α12 → Option γ} {y : γ} (h : bs12 x ret k = some y) : ∃ z, x = some z ∧ (∀ u1 u2 u3 u4 u5 u6 u7 u8 u9 u10 u11 u12, z = .inl (u1, u2, u3, u4, u5, u6, u7, u8, u9, u10, u11, u12) → k u1 u2 u3 u4 u5 u6 u7 u8 u9 u10 u11 u12 = some y) ∧ (∀ q, z = .inr q → ret q = some y) := by
  match x, h with
  | some (.inl (u1, u2, u3, u4, u5, u6, u7, u8, u9, u10, u11, u12)), h => exact ⟨_, rfl, fun _ _ _ _ _ _ _ _ _ _ _ _ e => (by cases e; exact h), fun _ e => (by cases e)⟩
  | some (.inr q), h => exact ⟨_, rfl, fun _ _ _ _ _ _ _ _ _ _ _ _ e => (by cases e), fun _ e => (by cases e; exact h)⟩
  | none, h => exact (no_some (show none = some y from h)).elim
def bd13 {α1 α2 α3 α4 α5 α6 α7 α8 α9 α10 α11 α12 α13 : Type} {γ : Type} (x : Option (α1 × α2 × α3 × α4 × α5 × α6 × α7 × α8 × α9 × α10 × α11 × α12 × α13)) (k : α1 → α2 → α3 → α4 → α5 → α6 → α7 → α8 → α9 → α10 → α11 → α12 → α13 → Option γ) : Option γ := match x with
  | some (u1, u2, u3, u4, u5, u6, u7, u8, u9, u10, u11, u12, u13) => k u1 u2 u3 u4 u5 u6 u7 u8 u9 u10 u11 u12 u13
  | none => none
theorem bd13_e {α1 α2 α3 α4 α5 α6 α7 α8 α9 α10 α11 α12 α13 : Type} {γ : Type} {x : Option (α1 × α2 × α3 × α4 × α5 × α6 × α7 × α8 × α9 × α10 × α11 × α12 × α13)} {k : α1 → α2 → α3 → α4 → α5 → α6 → α7 → α8 → α9 → α10 → α11 → α12 → α13 → Option γ} {y : γ} (h : bd13 x k = some y) : ∃ u1 u2 u3 u4 u5 u6 u7 u8 u9 u10 u11 u12 u13, x = some (u1, u2, u3, u4, u5, u6, u7, u8, u9, u10, u11, u12, u13) ∧ k u1 u2 u3 u4 u5 u6 u7 u8 u9 u10 u11 u12 u13 = some y := by
  match x, h with
  | some (u1, u2, u3, u4, u5, u6, u7, u8, u9, u10, u11, u12, u13), h => exact ⟨u1, u2, u3, u4, u5, u6, u7, u8, u9, u10, u11, u12, u13, rfl, h⟩
  | none, h => exact (no_some (show none = some y from h)).elim
theorem bd13_s {α1 α2 α3 α4 α5 α6 α7 α8 α9 α10 α11 α12 α13 : Type} {γ : Type} {k : α1 → α2 → α3 → α4 → α5 → α6 → α7 → α8 → α9 → α10 → α11 → α12 → α13 → Option γ} {u1 : α1} {u2 : α2} {u3 : α3} {u4 : α4} {u5 : α5} {u6 : α6} {u7 : α7} {u8 : α8} {u9 : α9} {u10 : α10} {u11 : α11} {u12 : α12} {u13 : α13} : bd13 (some (u1, u2, u3, u4, u5, u6, u7, u8, u9, u10, u11, u12, u13)) k = k u1 u2 u3 u4 u5 u6 u7 u8 u9 u10 u11 u12 u13 := rfl
def bs13 {α1 α2 α3 α4 α5 α6 α7 α8 α9 α10 α11 α12 α13 : Type} {ρ γ : Type} (x : Option ((α1 × α2 × α3 × α4 × α5 × α6 × α7 × α8 × α9 × α10 × α11 × α12 × α13) ⊕ ρ)) (ret : ρ → Option γ) (k : α1 → α2 → α3 → α4 → α5 → α6 → α7 → α8 → α9 → α10 → α11 → α12 → α13 → Option γ) : Option γ := match x with
  | some (.inl (u1, u2, u3, u4, u5, u6, u7, u8, u9, u10, u11, u12, u13)) => k u1 u2 u3 u4 u5 u6 u7 u8 u9 u10 u11 u12 u13
  | some (.inr q) => ret q
  | none => none
theorem bs13_e {α1 α2 α3 α4 α5 α6 α7 α8 α9 α10 α11 α12 α13 : Type} {ρ γ : Type} {x : Option ((α1 × α2 × α3 × α4 × α5 × α6 × α7 × α8 × α9 × α10 × α11 × α12 × α13) ⊕ ρ)} {ret : ρ → Option γ} {k : α1 → α2 → α3 → α4 → α5 → α6 → α7 → α8 → α9 → α10 → α11 → α12 → α13 → Option γ} {y : γ} (h : bs13 x ret k = some y) : ∃ z, x = some z ∧ (∀ u1 u2 u3 u4 u5 u6 u7 u8 u9 u10 u11 u12 u13, z = .inl (u1, u2, u3, u4, u5, u6, u7, u8, u9, u10, u11, u12, u13) → k u1 u2 u3 u4 u5 u6 u7 u8 u9 u10 u11 u12 u13 = some y) ∧ (∀ q, z = .inr q → ret q = some y) := by
  match x, h with
  | some (.inl (u1, u2, u3, u4, u5, u6, u7, u8, u9, u10, u11, u12, u13)), h => exact ⟨_, rfl, fun _ _ _ _ _ _ _ _ _ _ _ _ _ e => (by cases e; exact h), fun _ e => (by cases e)⟩
  | some (.inr q), h => exact ⟨_, rfl, fun _ _ _ _ _ _ _ _ _ _ _ _ _ e => (by cases e), fun _ e => (by cases e; exact h)⟩
  | none, h => exact (no_some (show none = some y from h)).elim
def bd14 {α1 α2 α3 α4 α5 α6 α7 α8 α9 α10 α11 α12 α13 α14 : Type} {γ : Type} (x : Option (α1 × α2 × α3 × α4 × α5 × α6 × α7 × α8 × α9 × α10 × α11 × α12 × α13 × α14)) (k : α1 → α2 → α3 → α4 → α5 → α6 → α7 → α8 → α9 → α10 → α11 → α12 → α13 → α14 → Option γ) : Option γ := match x with
  | some (u1, u2, u3, u4, u5, u6, u7, u8, u9, u10, u11, u12, u13, u14) => k u1 u2 u3 u4 u5 u6 u7 u8 u9 u10 u11 u12 u13 u14
  | none => none
theorem bd14_e {α1 α2 α3 α4 α5 α6 α7 α8 α9 α10 α11 α12 α13 α14 : Type} {γ : Type} {x : Option (α1 × α2 × α3 × α4 × α5 × α6 × α7 × α8 × α9 × α10 × α11 × α12 × α13 × α14)} {k : α1 → α2 → α3 → α4 → α5 → α6 → α7 → α8 → α9 → α10 → α11 → α12 → α13 → α14 → Option γ} {y : γ} (h : bd14 x k = some y) : ∃ u1 u2 u3 u4 u5 u6 u7 u8 u9 u10 u11 u12 u13 u14, x = some (u1, u2, u3, u4, u5, u6, u7, u8, u9, u10, u11, u12, u13, u14) ∧ k u1 u2 u3 u4 u5 u6 u7 u8 u9 u10 u11 u12 u13 u14 = some y := by
  match x, h with
  | some (u1, u2, u3, u4, u5, u6, u7, u8, u9, u10, u11, u12, u13, u14), h => exact ⟨u1, u2, u3, u4, u5, u6, u7, u8, u9, u10, u11, u12, u13, u14, rfl, h⟩
  | none, h => exact (no_some (show none = some y from h)).elim
theorem bd14_s {α1 α2 α3 α4 α5 α6 α7 α8 α9 α10 α11 α12 α13 α14 : Type} {γ : Type} {k : α1 → α2 → α3 → α4 → α5 → α6 → α7 → α8 → α9 → α10 → α11 → α12 → α13 → α14 → Option γ} {u1 : α1} {u2 : α2} {u3 : α3} {u4 : α4} {u5 : α5} {u6 : α6} {u7 : α7} {u8 : α8} {u9 : α9} {u10 : α10} {u11 : α11} {u12 : α12} {u13 : α13} {u14 : α14} : bd14 (some (u1, u2, u3, u4, u5, u6, u7, u8, u9, u10, u11, u12, u13, u14)) k = k u1 u2 u3 u4 u5 u6 u7 u8 u9 u10 u11 u12 u13 u14 := rfl
def bs14 {α1 α2 α3 α4 α5 α6 α7 α8 α9 α10 α11 α12 α13 α14 : Type} {ρ γ : Type} (x : Option ((α1 × α2 × α3 × α4 × α5 × α6 × α7 × α8 × α9 × α10 × α11 × α12 × α13 × α14) ⊕ ρ)) (ret : ρ → Option γ) (k : α1 → α2 → α3 → α4 → α5 → α6 → α7 → α8 → α9 → α10 → α11 → α12 → α13 → α14 → Option γ) : Option γ := match x with
  | some (.inl (u1, u2, u3, u4, u5, u6, u7, u8, u9, u10, u11, u12, u13, u14)) => k u1 u2 u3 u4 u5 u6 u7 u8 u9 u10 u11 u12 u13 u14
  | some (.inr q) => ret q
  | none => none
theorem bs14_e {α1 α2 α3 α4 α5 α6 α7 α8 α9 α10 α11 α12 α13 α14 : Type} {ρ γ : Type} {x : Option ((α1 × α2 × α3 × α4 × α5 × α6 × α7 × α8 × α9 × α10 × α11 × α12 × α13 × α14) ⊕ ρ)} {ret : ρ → Option γ} {k : α1 → α2 → α3 → α4 → α5 → α6 → α7 → α8 → α9 → α10 → α11 → α12 → α13 → α14 → Option γ} {y : γ} (h : bs14 x ret k = some y) : ∃ z, x = some z ∧ (∀ u1 u2 u3 u4 u5 u6 u7 u8 u9 u10 u11 u12 u13 u14, z = .inl (u1, u2, u3, u4, u5, u6, u7, u8, u9, u10, u11, u12, u13, u14) → k u1 u2 u3 u4 u5 u6 u7 u8 u9 u10 u11 u12 u13 u14 = some y) ∧ (∀ q, z = .inr q → ret q = some y) := by
  match x, h with
  | some (.inl (u1, u2, u3, u4, u5, u6, u7, u8, u9, u10, u11, u12, u13, u14)), h => exact ⟨_, rfl, fun _ _ _ _ _ _ _ _ _ _ _ _ _ _ e => (by cases e; exact h), fun _ e => (by cases e)⟩
  | some (.inr q), h => exact ⟨_, rfl, fun _ _ _ _ _ _ _ _ _ _ _ _ _ _ e => (by cases e), fun _ e => (by cases e; exact h)⟩
  | none, h => exact (no_some (show none = some y from h)).elim
def bd15 {α1 α2 α3 α4 α5 α6 α7 α8 α9 α10 α11 α12 α13 α14 α15 : Type} {γ : Type} (x : Option (α1 × α2 × α3 × α4 × α5 × α6 × α7 × α8 × α9 × α10 × α11 × α12 × α13 × α14 × α15)) (k : α1 → α2 → α3 → α4 → α5 → α6 → α7 → α8 → α9 → α10 → α11 → α12 → α13 → α14 → α15 → Option γ) : Option γ := match x with
  | some (u1, u2, u3, u4, u5, u6, u7, u8, u9, u10, u11, u12, u13, u14, u15) => k u1 u2 u3 u4 u5 u6 u7 u8 u9 u10 u11 u12 u13 u14 u15
  | none => none
theorem bd15_e {α1 α2 α3 α4 α5 α6 α7 α8 α9 α10 α11 α12 α13 α14 α15 : Type} {γ : Type} {x : Option (α1 × α2 × α3 × α4 × α5 × α6 × α7 × α8 × α9 × α10 × α11 × α12 × α13 × α14 × α15)} {k : α1 → α2 → α3 → α4 → α5 → α6 → α7 → α8 → α9 → α10 → α11 → α12 → α13 → α14 → α15 → Option γ} {y : γ} (h : bd15 x k = some y) : ∃ u1 u2 u3 u4 u5 u6 u7 u8 u9 u10 u11 u12 u13 u14 u15, x = some (u1, u2, u3, u4, u5, u6, u7, u8, u9, u10, u11, u12, u13, u14, u15) ∧ k u1 u2 u3 u4 u5 u6 u7 u8 u9 u10 u11 u12 u13 u14 u15 = some y := by
  match x, h with
  | some (u1, u2, u3, u4, u5, u6, u7, u8, u9, u10, u11, u12, u13, u14, u15), h => exact ⟨u1, u2, u3, u4, u5, u6, u7, u8, u9, u10, u11, u12, u13, u14, u15, rfl, h⟩
  | none, h => exact (no_some (show none = some y from h)).elim
theorem bd15_s {α1 α2 α3 α4 α5 α6 α7 α8 α9 α10 α11 α12 α13 α14 α15 : Type} {γ : Type} {k : α1 → α2 → α3 → α4 → α5 → α6 → α7 → α8 → α9 → α10 → α11 → α12 → α13 → α14 → α15 → Option γ} {u1 : α1} {u2 : α2} {u3 : α3} {u4 : α4} {u5 : α5} {u6 : α6} {u7 : α7} {u8 : α8} {u9 : α9} {u10 : α10} {u11 : α11} {u12 : α12} {u13 : α13} {u14 : α14} {u15 : α15} : bd15 (some (u1, u2, u3, u4, u5, u6, u7, u8, u9, u10, u11, u12, u13, u14, u15)) k = k u1 u2 u3 u4 u5 u6 u7 u8 u9 u10 u11 u12 u13 u14 u15 := rfl
def bs15 {α1 α2 α3 α4 α5 α6 α7 α8 α9 α10 α11 α12 α13 α14 α15 : Type} {ρ γ : Type} (x : Option ((α1 × α2 × α3 × α4 × α5 × α6 × α7 × α8 × α9 × α10 × α11 × α12 × α13 × α14 × α15) ⊕ ρ)) (ret : ρ → Option γ) (k : α1 → α2 → α3 → α4 → α5 → α6 → α7 → α8 → α9 → α10 → α11 → α12 → α13 → α14 → α15 → Option γ) : Option γ := match x with
  | some (.inl (u1, u2, u3, u4, u5, u6, u7, u8, u9, u10, u11, u12, u13, u14, u15)) => k u1 u2 u3 u4 u5 u6 u7 u8 u9 u10 u11 u12 u13 u14 u15
  | some (.inr q) => ret q
  | none => none
theorem bs15_e {α1 α2 α3 α4 α5 α6 α7 α8 α9 α10 α11 α12 α13 α14 α15 : Type} {ρ γ : Type} {x : Option ((α1 × α2 × α3 × α4 × α5 × α6 × α7 × α8 × α9 × α10 × α11 × α12 × α13 × α14 × α15) ⊕ ρ)} {ret : ρ → Option γ} {k : α1 → α2 → α3 → α4 → α5 → α6 → α7 → α8 → α9 → α10 → α11 → α12 → α13 → α14 → α15 → Option γ} {y : γ} (h : bs15 x ret k = some y) : ∃ z, x = some z ∧ (∀ u1 u2 u3 u4 u5 u6 u7 u8 u9 u10 u11 u12 u13 u14 u15, z = .inl (u1, u2, u3, u4, u5, u6, u7, u8, u9, u10, u11, u12, u13, u14, u15) → k u1 u2 u3 u4 u5 u6 u7 u8 u9 u10 u11 u12 u13 u14 u15 = some y) ∧ (∀ q, z = .inr q → ret q = some y) := by
  match x, h with
  | some (.inl (u1, u2, u3, u4, u5, u6, u7, u8, u9, u10, u11, u12, u13, u14, u15)), h => exact ⟨_, rfl, fun _ _ _ _ _ _ _ _ _ _ _ _ _ _ _ e => (by cases e; exact h), fun _ e => (by cases e)⟩
  | some (.inr q), h => exact ⟨_, rfl, fun _ _ _ _ _ _ _ _ _ _ _ _ _ _ _ e => (by cases e), fun _ e => (by cases e; exact h)⟩
  | none, h => exact (no_some (show none = some y from h)).elim
def bd16 {α1 α2 α3 α4 α5 α6 α7 α8 α9 α10 α11 α12 α13 α14 α15 α16 : Type} {γ : Type} (x : Option (α1 × α2 × α3 × α4 × α5 × α6 × α7 × α8 × α9 × α10 × α11 × α12 × α13 × α14 × α15 × α16)) (k : α1 → α2 → α3 → α4 → α5 → α6 → α7 → α8 → α9 → α10 → α11 → α12 → α13 → α14 → α15 → α16 → Option γ) : Option γ := match x with
  | some (u1, u2, u3, u4, u5, u6, u7, u8, u9, u10, u11, u12, u13, u14, u15, u16) => k u1 u2 u3 u4 u5 u6 u7 u8 u9 u10 u11 u12 u13 u14 u15 u16
  | none => none
theorem bd16_e {α1 α2 α3 α4 α5 α6 α7 α8 α9 α10 α11 α12 α13 α14 α15 α16 : Type} {γ : Type} {x : Option (α1 × α2 × α3 × α4 × α5 × α6 × α7 × α8 × α9 × α10 × α11 × α12 × α13 × α14 × α15 × α16)} {k : α1 → α2 → α3 → α4 → α5 → α6 → α7 → α8 → α9 → α10 → α11 → α12 → α13 → α14 → α15 → α16 → Option γ} {y : γ} (h : bd16 x k = some y) : ∃ u1 u2 u3 u4 u5 u6 u7 u8 u9 u10 u11 u12 u13 u14 u15 u16, x = some (u1, u2, u3, u4, u5, u6, u7, u8, u9, u10, u11, u12, u13, u14, u15, u16) ∧ k u1 u2 u3 u4 u5 u6 u7 u8 u9 u10 u11 u12 u13 u14 u15 u16 = some y := by
  match x, h with
  | some (u1, u2, u3, u4, u5, u6, u7, u8, u9, u10, u11, u12, u13, u14, u15, u16), h => exact ⟨u1, u2, u3, u4, u5, u6, u7, u8, u9, u10, u11, u12, u13, u14, u15, u16, rfl, h⟩
  | none, h => exact (no_some (show none = some y from h)).elim
theorem bd16_s {α1 α2 α3 α4 α5 α6 α7 α8 α9 α10 α11 α12 α13 α14 α15 α16 : Type} {γ : Type} {k : α1 → α2 → α3 → α4 → α5 → α6 → α7 → α8 → α9 → α10 → α11 → α12 → α13 → α14 → α15 → α16 → Option γ} {u1 : α1} {u2 : α2} {u3 : α3} {u4 : α4} {u5 : α5} {u6 : α6} {u7 : α7} {u8 : α8} {u9 : α9} {u10 : α10} {u11 : α11} {u12 : α12} {u13 : α13} {u14 : α14} {u15 : α15} {u16 : α16} : bd16 (some (u1, u2, u3, u4, u5, u6, u7, u8, u9, u10, u11, u12, u13, u14, u15, u16)) k = k u1 u2 u3 u4 u5 u6 u7 u8 u9 u10 u11 u12 u13 u14 u15 u16 := rfl
def bs16 {α1 α2 α3 α4 α5 α6 α7 α8 α9 α10 α11 α12 α13 α14 α15 α16 : Type} {ρ γ : Type} (x : Option ((α1 × α2 × α3 × α4 × α5 × α6 × α7 × α8 × α9 × α10 × α11 × α12 × α13 × α14 × α15 × α16) ⊕ ρ)) (ret : ρ → Option γ) (k : α1 → α2 → α3 → α4 → α5 → α6 → α7 → α8 → α9 → α10 → α11 → α12 → α13 → α14 → α15 → α16 → Option γ) : Option γ := match x with
  | some (.inl (u1, u2, u3, u4, u5, u6, u7, u8, u9, u10, u11, u12, u13, u14, u15, u16)) => k u1 u2 u3 u4 u5 u6 u7 u8 u9 u10 u11 u12 u13 u14 u15 u16
  | some (.inr q) => ret q
  | none => none
theorem bs16_e {α1 α2 α3 α4 α5 α6 α7 α8 α9 α10 α11 α12 α13 α14 α15 α16 : Type} {ρ γ : Type} {x : Option ((α1 × α2 × α3 × α4 × α5 × α6 × α7 × α8 × α9 × α10 × α11 × α12 × α13 × α14 × α15 × α16) ⊕ ρ)} {ret : ρ → Option γ} {k : α1 → α2 → α3 → α4 → α5 → α6 → α7 → α8 → α9 → α10 → α11 → α12 → α13 → α14 → α15 → α16 → Option γ} {y : γ} (h : bs16 x ret k = some y) : ∃ z, x = some z ∧ (∀ u1 u2 u3 u4 u5 u6 u7 u8 u9 u10 u11 u12 u13 u14 u15 u16, z = .inl (u1, u2, u3, u4, u5, u6, u7, u8, u9, u10, u11, u12, u13, u14, u15, u16) → k u1 u2 u3 u4 u5 u6 u7 u8 u9 u10 u11 u12 u13 u14 u15 u16 = some y) ∧ (∀ q, z = .inr q → ret q = some y) := by
  match x, h with
  | some (.inl (u1, u2, u3, u4, u5, u6, u7, u8, u9, u10, u11, u12, u13, u14, u15, u16)), h => exact ⟨_, rfl, fun _ _ _ _ _ _ _ _ _ _ _ _ _ _ _ _ e => (by cases e; exact h), fun _ e => (by cases e)⟩
  | some (.inr q), h => exact ⟨_, rfl, fun _ _ _ _ _ _ _ _ _ _ _ _ _ _ _ _ e => (by cases e), fun _ e => (by cases e; exact h)⟩
  | none, h => exact (no_some (show none = some y from h)).elim
def bd17 {α1 α2 α3 α4 α5 α6 α7 α8 α9 α10 α11 α12 α13 α14 α15 α16 α17 : Type} {γ : Type} (x : Option (α1 × α2 × α3 × α4 × α5 × α6 × α7 × α8 × α9 × α10 × α11 × α12 × α13 × α14 × α15 × α16 × α17)) (k : α1 → α2 → α3 → α4 → α5 → α6 → α7 → α8 → α9 → α10 → α11 → α12 → α13 → α14 → α15 → α16 → α17 → Option γ) : Option γ := match x with
  | some (u1, u2, u3, u4, u5, u6, u7, u8, u9, u10, u11, u12, u13, u14, u15, u16, u17) => k u1 u2 u3 u4 u5 u6 u7 u8 u9 u10 u11 u12 u13 u14 u15 u16 u17
  | none => none
theorem bd17_e {α1 α2 α3 α4 α5 α6 α7 α8 α9 α10 α11 α12 α13 α14 α15 α16 α17 : Type} {γ : Type} {x : Option (α1 × α2 × α3 × α4 × α5 × α6 × α7 × α8 × α9 × α10 × α11 × α12 × α13 × α14 × α15 × α16 × α17)} {k : α1 → α2 → α3 → α4 → α5 → α6 → α7 → α8 → α9 → α10 → α11 → α12 → α13 → α14 → α15 → α16 → α17 → Option γ} {y : γ} (h : bd17 x k = some y) : ∃ u1 u2 u3 u4 u5 u6 u7 u8 u9 u10 u11 u12 u13 u14 u15 u16 u17, x = some (u1, u2, u3, u4, u5, u6, u7, u8, u9, u10, u11, u12, u13, u14, u15, u16, u17) ∧ k u1 u2 u3 u4 u5 u6 u7 u8 u9 u10 u11 u12 u13 u14 u15 u16 u17 = some y := by
  match x, h with
  | some (u1, u2, u3, u4, u5, u6, u7, u8, u9, u10, u11, u12, u13, u14, u15, u16, u17), h => exact ⟨u1, u2, u3, u4, u5, u6, u7, u8, u9, u10, u11, u12, u13, u14, u15, u16, u17, rfl, h⟩
  | none, h => exact (no_some (show none = some y from h)).elim
theorem bd17_s {α1 α2 α3 α4 α5 α6 α7 α8 α9 α10 α11 α12 α13 α14 α15 α16 α17 : Type} {γ : Type} {k : α1 → α2 → α3 → α4 → α5 → α6 → α7 → α8 → α9 → α10 → α11 → α12 → α13 → α14 → α15 → α16 → α17 → Option γ} {u1 : α1} {u2 : α2} {u3 : α3} {u4 : α4} {u5 : α5} {u6 : α6} {u7 : α7} {u8 : α8} {u9 : α9} {u10 : α10} {u11 : α11} {u12 : α12} {u13 : α13} {u14 : α14} {u15 : α15} {u16 : α16} {u17 : α17} : bd17 (some (u1, u2, u3, u4, u5, u6, u7, u8, u9, u10, u11, u12, u13, u14, u15, u16, u17)) k = k u1 u2 u3 u4 u5 u6 u7 u8 u9 u10 u11 u12 u13 u14 u15 u16 u17 := rfl
def bs17 {α1 α2 α3 α4 α5 α6 α7 α8 α9 α10 α11 α12 α13 α14 α15 α16 α17 : Type} {ρ γ : Type} (x : Option ((α1 × α2 × α3 × α4 × α5 × α6 × α7 × α8 × α9 × α10 × α11 × α12 × α13 × α14 × α15 × α16 × α17) ⊕ ρ)) (ret : ρ → Option γ) (k : α1 → α2 → α3 → α4 → α5 → α6 → α7 → α8 → α9 → α10 → α11 → α12 → α13 → α14 → α15 → α16 → α17 → Option γ) : Option γ := match x with
  | some (.inl (u1, u2, u3, u4, u5, u6, u7, u8, u9, u10, u11, u12, u13, u14, u15, u16, u17)) => k u1 u2 u3 u4 u5 u6 u7 u8 u9 u10 u11 u12 u13 u14 u15 u16 u17
  | some (.inr q) => ret q
  | none => none
theorem bs17_e {α1 α2 α3 α4 α5 α6 α7 α8 α9 α10 α11 α12 α13 α14 α15 α16 α17 : Type} {ρ γ : Type} {x : Option ((α1 × α2 × α3 × α4 × α5 × α6 × α7 × α8 × α9 × α10 × α11 × α12 × α13 × α14 × α15 × α16 × α17) ⊕ ρ)} {ret : ρ → Option γ} {k : α1 → α2 → α3 → α4 → α5 → α6 → α7 → α8 → α9 → α10 → α11 → α12 → α13 → α14 → α15 → α16 → α17 → Option γ} {y : γ} (h : bs17 x ret k = some y) : ∃ z, x = some z ∧ (∀ u1 u2 u3 u4 u5 u6 u7 u8 u9 u10 u11 u12 u13 u14 u15 u16 u17, z = .inl (u1, u2, u3, u4, u5, u6, u7, u8, u9, u10, u11, u12, u13, u14, u15, u16, u17) → k u1 u2 u3 u4 u5 u6 u7 u8 u9 u10 u11 u12 u13 u14 u15 u16 u17 = some y) ∧ (∀ q, z = .inr q → ret q = some y) := by
  match x, h with
  | some (.inl (u1, u2, u3, u4, u5, u6, u7, u8, u9, u10, u11, u12, u13, u14, u15, u16, u17)), h => exact ⟨_, rfl, fun _ _ _ _ _ _ _ _ _ _ _ _ _ _ _ _ _ e => (by cases e; exact h), fun _ e => (by cases e)⟩
  | some (.inr q), h => exact ⟨_, rfl, fun _ _ _ _ _ _ _ _ _ _ _ _ _ _ _ _ _ e => (by cases e), fun _ e => (by cases e; exact h)⟩
  | none, h => exact (no_some (show none = some y from h)).elim
def bd18 {α1 α2 α3 α4 α5 α6 α7 α8 α9 α10 α11 α12 α13 α14 α15 α16 α17 α18 : Type} {γ : Type} (x : Option (α1 × α2 × α3 × α4 × α5 × α6 × α7 × α8 × α9 × α10 × α11 × α12 × α13 × α14 × α15 × α16 × α17 × α18)) (k : α1 → α2 → α3 → α4 → α5 → α6 → α7 → α8 → α9 → α10 → α11 → α12 → α13 → α14 → α15 → α16 → α17 → α18 → Option γ) : Option γ := match x with
  | some (u1, u2, u3, u4, u5, u6, u7, u8, u9, u10, u11, u12, u13, u14, u15, u16, u17, u18) => k u1 u2 u3 u4 u5 u6 u7 u8 u9 u10 u11 u12 u13 u14 u15 u16 u17 u18
  | none => none
theorem bd18_e {α1 α2 α3 α4 α5 α6 α7 α8 α9 α10 α11 α12 α13 α14 α15 α16 α17 α18 : Type} {γ : Type} {x : Option (α1 × α2 × α3 × α4 × α5 × α6 × α7 × α8 × α9 × α10 × α11 × α12 × α13 × α14 × α15 × α16 × α17 × α18)} {k : α1 → α2 → α3 → α4 → α5 → α6 → α7 → α8 → α9 → α10 → α11 → α12 → α13 → α14 → α15 → α16 → α17 → α18 → Option γ} {y : γ} (h : bd18 x k = some y) : ∃ u1 u2 u3 u4 u5 u6 u7 u8 u9 u10 u11 u12 u13 u14 u15 u16 u17 u18, x = some (u1, u2, u3, u4, u5, u6, u7, u8, u9, u10, u11, u12, u13, u14, u15, u16, u17, u18) ∧ k u1 u2 u3 u4 u5 u6 u7 u8 u9 u10 u11 u12 u13 u14 u15 u16 u17 u18 = some y := by
  match x, h with
  | some (u1, u2, u3, u4, u5, u6, u7, u8, u9, u10, u11, u12, u13, u14, u15, u16, u17, u18), h => exact ⟨u1, u2, u3, u4, u5, u6, u7, u8, u9, u10, u11, u12, u13, u14, u15, u16, u17, u18, rfl, h⟩
  | none, h => exact (no_some (show none = some y from h)).elim
theorem bd18_s {α1 α2 α3 α4 α5 α6 α7 α8 α9 α10 α11 α12 α13 α14 α15 α16 α17 α18 : Type} {γ : Type} {k : α1 → α2 → α3 → α4 → α5 → α6 → α7 → α8 → α9 → α10 → α11 → α12 → α13 → α14 → α15 → α16 → α17 → α18 → Option γ} {u1 : α1} {u2 : α2} {u3 : α3} {u4 : α4} {u5 : α5} {u6 : α6} {u7 : α7} {u8 : α8} {u9 : α9} {u10 : α10} {u11 : α11} {u12 : α12} {u13 : α13} {u14 : α14} {u15 : α15} {u16 : α16} {u17 : α17} {u18 : α18} : bd18 (some (u1, u2, u3, u4, u5, u6, u7, u8, u9, u10, u11, u12, u13, u14, u15, u16, u17, u18)) k = k u1 u2 u3 u4 u5 u6 u7 u8 u9 u10 u11 u12 u13 u14 u15 u16 u17 u18 := rfl
def bs18 {α1 α2 α3 α4 α5 α6 α7 α8 α9 α10 α11 α12 α13 α14 α15 α16 α17 α18 : Type} {ρ γ : Type} (x : Option ((α1 × α2 × α3 × α4 × α5 × α6 × α7 × α8 × α9 × α10 × α11 × α12 × α13 × α14 × α15 × α16 × α17 × α18) ⊕ ρ)) (ret : ρ → Option γ) (k : α1 → α2 → α3 → α4 → α5 → α6 → α7 → α8 → α9 → α10 → α11 → α12 → α13 → α14 → α15 → α16 → α17 → α18 → Option γ) : Option γ := match x with
  | some (.inl (u1, u2, u3, u4, u5, u6, u7, u8, u9, u10, u11, u12, u13, u14, u15, u16, u17, u18)) => k u1 u2 u3 u4 u5 u6 u7 u8 u9 u10 u11 u12 u13 u14 u15 u16 u17 u18
  | some (.inr q) => ret q
  | none => none
theorem bs18_e {α1 α2 α3 α4 α5 α6 α7 α8 α9 α10 α11 α12 α13 α14 α15 α16 α17 α18 : Type} {ρ γ : Type} {x : Option ((α1 × α2 × α3 × α4 × α5 × α6 × α7 × α8 × α9 × α10 × α11 × α12 × α13 × α14 × α15 × α16 × α17 × α18) ⊕ ρ)} {ret : ρ → Option γ} {k : α1 → α2 → α3 → α4 → α5 → α6 → α7 → α8 → α9 → α10 → α11 → α12 → α13 → α14 → α15 → α16 → α17 → α18 → Option γ} {y : γ} (h : bs18 x ret k = some y) : ∃ z, x = some z ∧ (∀ u1 u2 u3 u4 u5 u6 u7 u8 u9 u10 u11 u12 u13 u14 u15 u16 u17 u18, z = .inl (u1, u2, u3, u4, u5, u6, u7, u8, u9, u10, u11, u12, u13, u14, u15, u16, u17, u18) → k u1 u2 u3 u4 u5 u6 u7 u8 u9 u10 u11 u12 u13 u14 u15 u16 u17 u18 = some y) ∧ (∀ q, z = .inr q → ret q = some y) := by
  match x, h with
  | some (.inl (u1, u2, u3, u4, u5, u6, u7, u8, u9, u10, u11, u12, u13, u14, u15, u16, u17, u18)), h => exact ⟨_, rfl, fun _ _ _ _ _ _ _ _ _ _ _ _ _ _ _ _ _ _ e => (by cases e; exact h), fun _ e => (by cases e)⟩
  | some (.inr q), h => exact ⟨_, rfl, fun _ _ _ _ _ _ _ _ _ _ _ _ _ _ _ _ _ _ e => (by cases e), fun _ e => (by cases e; exact h)⟩
  | none, h => exact (no_some (show none = some y from h)).elim
def bd19 {α1 α2 α3 α4 α5 α6 α7 α8 α9 α10 α11 α12 α13 α14 α15 α16 α17 α18 α19 : Type} {γ : Type} (x : Option (α1 × α2 × α3 × α4 × α5 × α6 × α7 × α8 × α9 × α10 × α11 × α12 × α13 × α14 × α15 × α16 × α17 × α18 × α19)) (k : α1 → α2 → α3 → α4 → α5 → α6 → α7 → α8 → α9 → α10 → α11 → α12 → α13 → α14 → α15 → α16 → α17 → α18 → α19 → Option γ) : Option γ := match x with
  | some (u1, u2, u3, u4, u5, u6, u7, u8, u9, u10, u11, u12, u13, u14, u15, u16, u17, u18, u19) => k u1 u2 u3 u4 u5 u6 u7 u8 u9 u10 u11 u12 u13 u14 u15 u16 u17 u18 u19
  | none => none
theorem bd19_e {α1 α2 α3 α4 α5 α6 α7 α8 α9 α10 α11 α12 α13 α14 α15 α16 α17 α18 α19 : Type} {γ : Type} {x : Option (α1 × α2 × α3 × α4 × α5 × α6 × α7 × α8 × α9 × α10 × α11 × α12 × α13 × α14 × α15 × α16 × α17 × α18 × α19)} {k : α1 → α2 → α3 → α4 → α5 → α6 → α7 → α8 → α9 → α10 → α11 → α12 → α13 → α14 → α15 → α16 → α17 → α18 → α19 → Option γ} {y : γ} (h : bd19 x k = some y) : ∃ u1 u2 u3 u4 u5 u6 u7 u8 u9 u10 u11 u12 u13 u14 u15 u16 u17 u18 u19, x = some (u1, u2, u3, u4, u5, u6, u7, u8, u9, u10, u11, u12, u13, u14, u15, u16, u17, u18, u19) ∧ k u1 u2 u3 u4 u5 u6 u7 u8 u9 u10 u11 u12 u13 u14 u15 u16 u17 u18 u19 = some y := by
  match x, h with
  | some (u1, u2, u3, u4, u5, u6, u7, u8, u9, u10, u11, u12, u13, u14, u15, u16, u17, u18, u19), h => exact ⟨u1, u2, u3, u4, u5, u6, u7, u8, u9, u10, u11, u12, u13, u14, u15, u16, u17, u18, u19, rfl, h⟩
  | none, h => exact (no_some (show none = some y from h)).elim
theorem bd19_s {α1 α2 α3 α4 α5 α6 α7 α8 α9 α10 α11 α12 α13 α14 α15 α16 α17 α18 α19 : Type} {γ : Type} {k : α1 → α2 → α3 → α4 → α5 → α6 → α7 → α8 → α9 → α10 → α11 → α12 → α13 → α14 → α15 → α16 → α17 → α18 → α19 → Option γ} {u1 : α1} {u2 : α2} {u3 : α3} {u4 : α4} {u5 : α5} {u6 : α6} {u7 : α7} {u8 : α8} {u9 : α9} {u10 : α10} {u11 : α11} {u12 : α12} {u13 : α13} {u14 : α14} {u15 : α15} {u16 : α16} {u17 : α17} {u18 : α18} {u19 : α19} : bd19 (some (u1, u2, u3, u4, u5, u6, u7, u8, u9, u10, u11, u12, u13, u14, u15, u16, u17, u18, u19)) k = k u1 u2 u3 u4 u5 u6 u7 u8 u9 u10 u11 u12 u13 u14 u15 u16 u17 u18 u19 := rfl
def bs19 {α1 α2 α3 α4 α5 α6 α7 α8 α9 α10 α11 α12 α13 α14 α15 α16 α17 α18 α19 : Type} {ρ γ : Type} (x : Option ((α1 × α2 × α3 × α4 × α5 × α6 × α7 × α8 × α9 × α10 × α11 × α12 × α13 × α14 × α15 × α16 × α17 × α18 × α19) ⊕ ρ)) (ret : ρ → Option γ) (k : α1 → α2 → α3 → α4 → α5 → α6 → α7 → α8 → α9 → α10 → α11 → α12 → α13 → α14 → α15 → α16 → α17 → α18 → α19 → Option γ) : Option γ := match x with
  | some (.inl (u1, u2, u3, u4, u5, u6, u7, u8, u9, u10, u11, u12, u13, u14, u15, u16, u17, u18, u19)) => k u1 u2 u3 u4 u5 u6 u7 u8 u9 u10 u11 u12 u13 u14 u15 u16 u17 u18 u19
  | some (.inr q) => ret q
  | none => none
theorem bs19_e {α1 α2 α3 α4 α5 α6 α7 α8 α9 α10 α11 α12 α13 α14 α15 α16 α17 α18 α19 : Type} {ρ γ : Type} {x : Option ((α1 × α2 × α3 × α4 × α5 × α6 × α7 × α8 × α9 × α10 × α11 × α12 × α13 × α14 × α15 × α16 × α17 × α18 × α19) ⊕ ρ)} {ret : ρ → Option γ} {k : α1 → α2 → α3 → α4 → α5 → α6 → α7 → α8 → α9 → α10 → α11 → α12 → α13 → α14 → α15 → α16 → α17 → α18 → α19 → Option γ} {y : γ} (h : bs19 x ret k = some y) : ∃ z, x = some z ∧ (∀ u1 u2 u3 u4 u5 u6 u7 u8 u9 u10 u11 u12 u13 u14 u15 u16 u17 u18 u19, z = .inl (u1, u2, u3, u4, u5, u6, u7, u8, u9, u10, u11, u12, u13, u14, u15, u16, u17, u18, u19) → k u1 u2 u3 u4 u5 u6 u7 u8 u9 u10 u11 u12 u13 u14 u15 u16 u17 u18 u19 = some y) ∧ (∀ q, z = .inr q → ret q = some y) := by
  match x, h with
  | some (.inl (u1, u2, u3, u4, u5, u6, u7, u8, u9, u10, u11, u12, u13, u14, u15, u16, u17, u18, u19)), h => exact ⟨_, rfl, fun _ _ _ _ _ _ _ _ _ _ _ _ _ _ _ _ _ _ _ e => (by cases e; exact h), fun _ e => (by cases e)⟩
  | some (.inr q), h => exact ⟨_, rfl, fun _ _ _ _ _ _ _ _ _ _ _ _ _ _ _ _ _ _ _ e => (by cases e), fun _ e => (by cases e; exact h)⟩
  | none, h => exact (no_some (show none = some y from h)).elim
def bd20 {α1 α2 α3 α4 α5 α6 α7 α8 α9 α10 α11 α12 α13 α14 α15 α16 α17 α18 α19 α20 : Type} {γ : Type} (x : Option (α1 × α2 × α3 × α4 × α5 × α6 × α7 × α8 × α9 × α10 × α11 × α12 × α13 × α14 × α15 × α16 × α17 × α18 × α19 × α20)) (k : α1 → α2 → α3 → α4 → α5 → α6 → α7 → α8 → α9 → α10 → α11 → α12 → α13 → α14 → α15 → α16 → α17 → α18 → α19 → α20 → Option γ) : Option γ := match x with
  | some (u1, u2, u3, u4, u5, u6, u7, u8, u9, u10, u11, u12, u13, u14, u15, u16, u17, u18, u19, u20) => k u1 u2 u3 u4 u5 u6 u7 u8 u9 u10 u11 u12 u13 u14 u15 u16 u17 u18 u19 u20
  | none => none
theorem bd20_e {α1 α2 α3 α4 α5 α6 α7 α8 α9 α10 α11 α12 α13 α14 α15 α16 α17 α18 α19 α20 : Type} {γ : Type} {x : Option (α1 × α2 × α3 × α4 × α5 × α6 × α7 × α8 × α9 × α10 × α11 × α12 × α13 × α14 × α15 × α16 × α17 × α18 × α19 × α20)} {k : α1 → α2 → α3 → α4 → α5 → α6 → α7 → α8 → α9 → α10 → α11 → α12 → α13 → α14 → α15 → α16 → α17 → α18 → α19 → α20 → Option γ} {y : γ} (h : bd20 x k = some y) : ∃ u1 u2 u3 u4 u5 u6 u7 u8 u9 u10 u11 u12 u13 u14 u15 u16 u17 u18 u19 u20, x = some (u1, u2, u3, u4, u5, u6, u7, u8, u9, u10, u11, u12, u13, u14, u15, u16, u17, u18, u19, u20) ∧ k u1 u2 u3 u4 u5 u6 u7 u8 u9 u10 u11 u12 u13 u14 u15 u16 u17 u18 u19 u20 = some y := by
  match x, h with
  | some (u1, u2, u3, u4, u5, u6, u7, u8, u9, u10, u11, u12, u13, u14, u15, u16, u17, u18, u19, u20), h => exact ⟨u1, u2, u3, u4, u5, u6, u7, u8, u9, u10, u11, u12, u13, u14, u15, u16, u17, u18, u19, u20, rfl, h⟩
  | none, h => exact (no_some (show none = some y from h)).elim
theorem bd20_s {α1 α2 α3 α4 α5 α6 α7 α8 α9 α10 α11 α12 α13 α14 α15 α16 α17 α18 α19 α20 : Type} {γ : Type} {k : α1 → α2 → α3 → α4 → α5 → α6 → α7 → α8 → α9 → α10 → α11 → α12 → α13 → α14 → α15 → α16 → α17 → α18 → α19 → α20 → Option γ} {u1 : α1} {u2 : α2} {u3 : α3} {u4 : α4} {u5 : α5} {u6 : α6} {u7 : α7} {u8 : α8} {u9 : α9} {u10 : α10} {u11 : α11} {u12 : α12} {u13 : α13} {u14 : α14} {u15 : α15} {u16 : α16} {u17 : α17} {u18 : α18} {u19 : α19} {u20 : α20} : bd20 (some (u1, u2, u3, u4, u5, u6, u7, u8, u9, u10, u11, u12, u13, u14, u15, u16, u17, u18, u19, u20)) k = k u1 u2 u3 u4 u5 u6 u7 u8 u9 u10 u11 u12 u13 u14 u15 u16 u17 u18 u19 u20 := rfl
def bs20 {α1 α2 α3 α4 α5 α6 α7 α8 α9 α10 α11 α12 α13 α14 α15 α16 α17 α18 α19 α20 : Type} {ρ γ : Type} (x : Option ((α1 × α2 × α3 × α4 × α5 × α6 × α7 × α8 × α9 × α10 × α11 × α12 × α13 × α14 × α15 × α16 × α17 × α18 × α19 × α20) ⊕ ρ)) (ret : ρ → Option γ) (k : α1 → α2 → α3 → α4 → α5 → α6 → α7 → α8 → α9 → α10 → α11 → α12 → α13 → α14 → α15 → α16 → α17 → α18 → α19 → α20 → Option γ) : Option γ := match x with
  | some (.inl (u1, u2, u3, u4, u5, u6, u7, u8, u9, u10, u11, u12, u13, u14, u15, u16, u17, u18, u19, u20)) => k u1 u2 u3 u4 u5 u6 u7 u8 u9 u10 u11 u12 u13 u14 u15 u16 u17 u18 u19 u20
  | some (.inr q) => ret q
  | none => none
theorem bs20_e {α1 α2 α3 α4 α5 α6 α7 α8 α9 α10 α11 α12 α13 α14 α15 α16 α17 α18 α19 α20 : Type} {ρ γ : Type} {x : Option ((α1 × α2 × α3 × α4 × α5 × α6 × α7 × α8 × α9 × α10 × α11 × α12 × α13 × α14 × α15 × α16 × α17 × α18 × α19 × α20) ⊕ ρ)} {ret : ρ → Option γ} {k : α1 → α2 → α3 → α4 → α5 → α6 → α7 → α8 → α9 → α10 → α11 → α12 → α13 → α14 → α15 → α16 → α17 → α18 → α19 → α20 → Option γ} {y : γ} (h : bs20 x ret k = some y) : ∃ z, x = some z ∧ (∀ u1 u2 u3 u4 u5 u6 u7 u8 u9 u10 u11 u12 u13 u14 u15 u16 u17 u18 u19 u20, z = .inl (u1, u2, u3, u4, u5, u6, u7, u8, u9, u10, u11, u12, u13, u14, u15, u16, u17, u18, u19, u20) → k u1 u2 u3 u4 u5 u6 u7 u8 u9 u10 u11 u12 u13 u14 u15 u16 u17 u18 u19 u20 = some y) ∧ (∀ q, z = .inr q → ret q = some y) := by
  match x, h with
  | some (.inl (u1, u2, u3, u4, u5, u6, u7, u8, u9, u10, u11, u12, u13, u14, u15, u16, u17, u18, u19, u20)), h => exact ⟨_, rfl, fun _ _ _ _ _ _ _ _ _ _ _ _ _ _ _ _ _ _ _ _ e => (by cases e; exact h), fun _ e => (by cases e)⟩
  | some (.inr q), h => exact ⟨_, rfl, fun _ _ _ _ _ _ _ _ _ _ _ _ _ _ _ _ _ _ _ _ e => (by cases e), fun _ e => (by cases e; exact h)⟩
  | none, h => exact (no_some (show none = some y from h)).elim
def bd21 {α1 α2 α3 α4 α5 α6 α7 α8 α9 α10 α11 α12 α13 α14 α15 α16 α17 α18 α19 α20 α21 : Type} {γ : Type} (x : Option (α1 × α2 × α3 × α4 × α5 × α6 × α7 × α8 × α9 × α10 × α11 × α12 × α13 × α14 × α15 × α16 × α17 × α18 × α19 × α20 × α21)) (k : α1 → α2 → α3 → α4 → α5 → α6 → α7 → α8 → α9 → α10 → α11 → α12 → α13 → α14 → α15 → α16 → α17 → α18 → α19 → α20 → α21 → Option γ) : Option γ := match x with
  | some (u1, u2, u3, u4, u5, u6, u7, u8, u9, u10, u11, u12, u13, u14, u15, u16, u17, u18, u19, u20, u21) => k u1 u2 u3 u4 u5 u6 u7 u8 u9 u10 u11 u12 u13 u14 u15 u16 u17 u18 u19 u20 u21
  | none => none
theorem bd21_e {α1 α2 α3 α4 α5 α6 α7 α8 α9 α10 α11 α12 α13 α14 α15 α16 α17 α18 α19 α20 α21 : Type} {γ : Type} {x : Option (α1 × α2 × α3 × α4 × α5 × α6 × α7 × α8 × α9 × α10 × α11 × α12 × α13 × α14 × α15 × α16 × α17 × α18 × α19 × α20 × α21)} {k : α1 → α2 → α3 → α4 → α5 → α6 → α7 → α8 → α9 → α10 → α11 → α12 → α13 → α14 → α15 → α16 → α17 → α18 → α19 → α20 → α21 → Option γ} {y : γ} (h : bd21 x k = some y) : ∃ u1 u2 u3 u4 u5 u6 u7 u8 u9 u10 u11 u12 u13 u14 u15 u16 u17 u18 u19 u20 u21, x = some (u1, u2, u3, u4, u5, u6, u7, u8, u9, u10, u11, u12, u13, u14, u15, u16, u17, u18, u19, u20, u21) ∧ k u1 u2 u3 u4 u5 u6 u7 u8 u9 u10 u11 u12 u13 u14 u15 u16 u17 u18 u19 u20 u21 = some y := by
  match x, h with
  | some (u1, u2, u3, u4, u5, u6, u7, u8, u9, u10, u11, u12, u13, u14, u15, u16, u17, u18, u19, u20, u21), h => exact ⟨u1, u2, u3, u4, u5, u6, u7, u8, u9, u10, u11, u12, u13, u14, u15, u16, u17, u18, u19, u20, u21, rfl, h⟩
  | none, h => exact (no_some (show none = some y from h)).elim
theorem bd21_s {α1 α2 α3 α4 α5 α6 α7 α8 α9 α10 α11 α12 α13 α14 α15 α16 α17 α18 α19 α20 α21 : Type} {γ : Type} {k : α1 → α2 → α3 → α4 → α5 → α6 → α7 → α8 → α9 → α10 → α11 → α12 → α13 → α14 → α15 → α16 → α17 → α18 → α19 → α20 → α21 → Option γ} {u1 : α1} {u2 : α2} {u3 : α3} {u4 : α4} {u5 : α5} {u6 : α6} {u7 : α7} {u8 : α8} {u9 : α9} {u10 : α10} {u11 : α11} {u12 : α12} {u13 : α13} {u14 : α14} {u15 : α15} {u16 : α16} {u17 : α17} {u18 : α18} {u19 : α19} {u20 : α20} {u21 : α21} : bd21 (some (u1, u2, u3, u4, u5, u6, u7, u8, u9, u10, u11, u12, u13, u14, u15, u16, u17, u18, u19, u20, u21)) k = k u1 u2 u3 u4 u5 u6 u7 u8 u9 u10 u11 u12 u13 u14 u15 u16 u17 u18 u19 u20 u21 := rfl
def bs21 {α1 α2 α3 α4 α5 α6 α7 α8 α9 α10 α11 α12 α13 α14 α15 α16 α17 α18 α19 α20 α21 : Type} {ρ γ : Type} (x : Option ((α1 × α2 × α3 × α4 × α5 × α6 × α7 × α8 × α9 × α10 × α11 × α12 × α13 × α14 × α15 × α16 × α17 × α18 × α19 × α20 × α21) ⊕ ρ)) (ret : ρ → Option γ) (k : α1 → α2 → α3 → α4 → α5 → α6 → α7 → α8 → α9 → α10 → α11 → α12 → α13 → α14 → α15 → α16 → α17 → α18 → α19 → α20 → α21 → Option γ) : Option γ := match x with
  | some (.inl (u1, u2, u3, u4, u5, u6, u7, u8, u9, u10, u11, u12, u13, u14, u15, u16, u17, u18, u19, u20, u21)) => k u1 u2 u3 u4 u5 u6 u7 u8 u9 u10 u11 u12 u13 u14 u15 u16 u17 u18 u19 u20 u21
  | some (.inr q) => ret q
  | none => none
theorem bs21_e {α1 α2 α3 α4 α5 α6 α7 α8 α9 α10 α11 α12 α13 α14 α15 α16 α17 α18 α19 α20 α21 : Type} {ρ γ : Type} {x : Option ((α1 × α2 × α3 × α4 × α5 × α6 × α7 × α8 × α9 × α10 × α11 × α12 × α13 × α14 × α15 × α16 × α17 × α18 × α19 × α20 × α21) ⊕ ρ)} {ret : ρ → Option γ} {k : α1 → α2 → α3 → α4 → α5 → α6 → α7 → α8 → α9 → α10 → α11 → α12 → α13 → α14 → α15 → α16 → α17 → α18 → α19 → α20 → α21 → Option γ} {y : γ} (h : bs21 x ret k = some y) : ∃ z, x = some z ∧ (∀ u1 u2 u3 u4 u5 u6 u7 u8 u9 u10 u11 u12 u13 u14 u15 u16 u17 u18 u19 u20 u21, z = .inl (u1, u2, u3, u4, u5, u6, u7, u8, u9, u10, u11, u12, u13, u14, u15, u16, u17, u18, u19, u20, u21) → k u1 u2 u3 u4 u5 u6 u7 u8 u9 u10 u11 u12 u13 u14 u15 u16 u17 u18 u19 u20 u21 = some y) ∧ (∀ q, z = .inr q → ret q = some y) := by
  match x, h with
  | some (.inl (u1, u2, u3, u4, u5, u6, u7, u8, u9, u10, u11, u12, u13, u14, u15, u16, u17, u18, u19, u20, u21)), h => exact ⟨_, rfl, fun _ _ _ _ _ _ _ _ _ _ _ _ _ _ _ _ _ _ _ _ _ e => (by cases e; exact h), fun _ e => (by cases e)⟩
  | some (.inr q), h => exact ⟨_, rfl, fun _ _ _ _ _ _ _ _ _ _ _ _ _ _ _ _ _ _ _ _ _ e => (by cases e), fun _ e => (by cases e; exact h)⟩
  | none, h => exact (no_some (show none = some y from h)).elim
def bd22 {α1 α2 α3 α4 α5 α6 α7 α8 α9 α10 α11 α12 α13 α14 α15 α16 α17 α18 α19 α20 α21 α22 : Type} {γ : Type} (x : Option (α1 × α2 × α3 × α4 × α5 × α6 × α7 × α8 × α9 × α10 × α11 × α12 × α13 × α14 × α15 × α16 × α17 × α18 × α19 × α20 × α21 × α22)) (k : α1 → α2 → α3 → α4 → α5 → α6 → α7 → α8 → α9 → α10 → α11 → α12 → α13 → α14 → α15 → α16 → α17 → α18 → α19 → α20 → α21 → α22 → Option γ) : Option γ := match x with
  | some (u1, u2, u3, u4, u5, u6, u7, u8, u9, u10, u11, u12, u13, u14, u15, u16, u17, u18, u19, u20, u21, u22) => k u1 u2 u3 u4 u5 u6 u7 u8 u9 u10 u11 u12 u13 u14 u15 u16 u17 u18 u19 u20 u21 u22
  | none => none
theorem bd22_e {α1 α2 α3 α4 α5 α6 α7 α8 α9 α10 α11 α12 α13 α14 α15 α16 α17 α18 α19 α20 α21 α22 : Type} {γ : Type} {x : Option (α1 × α2 × α3 × α4 × α5 × α6 × α7 × α8 × α9 × α10 × α11 × α12 × α13 × α14 × α15 × α16 × α17 × α18 × α19 × α20 × α21 × α22)} {k : α1 → α2 → α3 → α4 → α5 → α6 → α7 → α8 → α9 → α10 → α11 → α12 → α13 → α14 → α15 → α16 → α17 → α18 → α19 → α20 → α21 → α22 → Option γ} {y : γ} (h : bd22 x k = some y) : ∃ u1 u2 u3 u4 u5 u6 u7 u8 u9 u10 u11 u12 u13 u14 u15 u16 u17 u18 u19 u20 u21 u22, x = some (u1, u2, u3, u4, u5, u6, u7, u8, u9, u10, u11, u12, u13, u14, u15, u16, u17, u18, u19, u20, u21, u22) ∧ k u1 u2 u3 u4 u5 u6 u7 u8 u9 u10 u11 u12 u13 u14 u15 u16 u17 u18 u19 u20 u21 u22 = some y := by
  match x, h with
  | some (u1, u2, u3, u4, u5, u6, u7, u8, u9, u10, u11, u12, u13, u14, u15, u16, u17, u18, u19, u20, u21, u22), h => exact ⟨u1, u2, u3, u4, u5, u6, u7, u8, u9, u10, u11, u12, u13, u14, u15, u16, u17, u18, u19, u20, u21, u22, rfl, h⟩
  | none, h => exact (no_some (show none = some y from h)).elim
theorem bd22_s {α1 α2 α3 α4 α5 α6 α7 α8 α9 α10 α11 α12 α13 α14 α15 α16 α17 α18 α19 α20 α21 α22 : Type} {γ : Type} {k : α1 → α2 → α3 → α4 → α5 → α6 → α7 → α8 → α9 → α10 → α11 → α12 → α13 → α14 → α15 → α16 → α17 → α18 → α19 → α20 → α21 → α22 → Option γ} {u1 : α1} {u2 : α2} {u3 : α3} {u4 : α4} {u5 : α5} {u6 : α6} {u7 : α7} {u8 : α8} {u9 : α9} {u10 : α10} {u11 : α11} {u12 : α12} {u13 : α13} {u14 : α14} {u15 : α15} {u16 : α16} {u17 : α17} {u18 : α18} {u19 : α19} {u20 : α20} {u21 : α21} {u22 : α22} : bd22 (some (u1, u2, u3, u4, u5, u6, u7, u8, u9, u10, u11, u12, u13, u14, u15, u16, u17, u18, u19, u20, u21, u22)) k = k u1 u2 u3 u4 u5 u6 u7 u8 u9 u10 u11 u12 u13 u14 u15 u16 u17 u18 u19 u20 u21 u22 := rfl
def bs22 {α1 α2 α3 α4 α5 α6 α7 α8 α9 α10 α11 α12 α13 α14 α15 α16 α17 α18 α19 α20 α21 α22 : Type} {ρ γ : Type} (x : Option ((α1 × α2 × α3 × α4 × α5 × α6 × α7 × α8 × α9 × α10 × α11 × α12 × α13 × α14 × α15 × α16 × α17 × α18 × α19 × α20 × α21 × α22) ⊕ ρ)) (ret : ρ → Option γ) (k : α1 → α2 → α3 → α4 → α5 → α6 → α7 → α8 → α9 → α10 → α11 → α12 → α13 → α14 → α15 → α16 → α17 → α18 → α19 → α20 → α21 → α22 → Option γ) : Option γ := match x with
  | some (.inl (u1, u2, u3, u4, u5, u6, u7, u8, u9, u10, u11, u12, u13, u14, u15, u16, u17, u18, u19, u20, u21, u22)) => k u1 u2 u3 u4 u5 u6 u7 u8 u9 u10 u11 u12 u13 u14 u15 u16 u17 u18 u19 u20 u21 u22
  | some (.inr q) => ret q
  | none => none
theorem bs22_e {α1 α2 α3 α4 α5 α6 α7 α8 α9 α10 α11 α12 α13 α14 α15 α16 α17 α18 α19 α20 α21 α22 : Type} {ρ γ : Type} {x : Option ((α1 × α2 × α3 × α4 × α5 × α6 × α7 × α8 × α9 × α10 × α11 × α12 × α13 × α14 × α15 × α16 × α17 × α18 × α19 × α20 × α21 × α22) ⊕ ρ)} {ret : ρ → Option γ} {k : α1 → α2 → α3 → α4 → α5 → α6 → α7 → α8 → α9 → α10 → α11 → α12 → α13 → α14 → α15 → α16 → α17 → α18 → α19 → α20 → α21 → α22 → Option γ} {y : γ} (h : bs22 x ret k = some y) : ∃ z, x = some z ∧ (∀ u1 u2 u3 u4 u5 u6 u7 u8 u9 u10 u11 u12 u13 u14 u15 u16 u17 u18 u19 u20 u21 u22, z = .inl (u1, u2, u3, u4, u5, u6, u7, u8, u9, u10, u11, u12, u13, u14, u15, u16, u17, u18, u19, u20, u21, u22) → k u1 u2 u3 u4 u5 u6 u7 u8 u9 u10 u11 u12 u13 u14 u15 u16 u17 u18 u19 u20 u21 u22 = some y) ∧ (∀ q, z = .inr q → ret q = some y) := by
  match x, h with
  | some (.inl (u1, u2, u3, u4, u5, u6, u7, u8, u9, u10, u11, u12, u13, u14, u15, u16, u17, u18, u19, u20, u21, u22)), h => exact ⟨_, rfl, fun _ _ _ _ _ _ _ _ _ _ _ _ _ _ _ _ _ _ _ _ _ _ e => (by cases e; exact h), fun _ e => (by cases e)⟩
  | some (.inr q), h => exact ⟨_, rfl, fun _ _ _ _ _ _ _ _ _ _ _ _ _ _ _ _ _ _ _ _ _ _ e => (by cases e), fun _ e => (by cases e; exact h)⟩
  | none, h => exact (no_some (show none = some y from h)).elim
def bd23 {α1 α2 α3 α4 α5 α6 α7 α8 α9 α10 α11 α12 α13 α14 α15 α16 α17 α18 α19 α20 α21 α22 α23 : Type} {γ : Type} (x : Option (α1 × α2 × α3 × α4 × α5 × α6 × α7 × α8 × α9 × α10 × α11 × α12 × α13 × α14 × α15 × α16 × α17 × α18 × α19 × α20 × α21 × α22 × α23)) (k : α1 → α2 → α3 → α4 → α5 → α6 → α7 → α8 → α9 → α10 → α11 → α12 → α13 → α14 → α15 → α16 → α17 → α18 → α19 → α20 → α21 → α22 → α23 → Option γ) : Option γ := match x with
  | some (u1, u2, u3, u4, u5, u6, u7, u8, u9, u10, u11, u12, u13, u14, u15, u16, u17, u18, u19, u20, u21, u22, u23) => k u1 u2 u3 u4 u5 u6 u7 u8 u9 u10 u11 u12 u13 u14 u15 u16 u17 u18 u19 u20 u21 u22 u23
  | none => none
theorem bd23_e {α1 α2 α3 α4 α5 α6 α7 α8 α9 α10 α11 α12 α13 α14 α15 α16 α17 α18 α19 α20 α21 α22 α23 : Type} {γ : Type} {x : Option (α1 × α2 × α3 × α4 × α5 × α6 × α7 × α8 × α9 × α10 × α11 × α12 × α13 × α14 × α15 × α16 × α17 × α18 × α19 × α20 × α21 × α22 × α23)} {k : α1 → α2 → α3 → α4 → α5 → α6 → α7 → α8 → α9 → α10 → α11 → α12 → α13 → α14 → α15 → α16 → α17 → α18 → α19 → α20 → α21 → α22 → α23 → Option γ} {y : γ} (h : bd23 x k = some y) : ∃ u1 u2 u3 u4 u5 u6 u7 u8 u9 u10 u11 u12 u13 u14 u15 u16 u17 u18 u19 u20 u21 u22 u23, x = some (u1, u2, u3, u4, u5, u6, u7, u8, u9, u10, u11, u12, u13, u14, u15, u16, u17, u18, u19, u20, u21, u22, u23) ∧ k u1 u2 u3 u4 u5 u6 u7 u8 u9 u10 u11 u12 u13 u14 u15 u16 u17 u18 u19 u20 u21 u22 u23 = some y := by
  match x, h with
  | some (u1, u2, u3, u4, u5, u6, u7, u8, u9, u10, u11, u12, u13, u14, u15, u16, u17, u18, u19, u20, u21, u22, u23), h => exact ⟨u1, u2, u3, u4, u5, u6, u7, u8, u9, u10, u11, u12, u13, u14, u15, u16, u17, u18, u19, u20, u21, u22, u23, rfl, h⟩
  | none, h => exact (no_some (show none = some y from h)).elim
theorem bd23_s {α1 α2 α3 α4 α5 α6 α7 α8 α9 α10 α11 α12 α13 α14 α15 α16 α17 α18 α19 α20 α21 α22 α23 : Type} {γ : Type} {k : α1 → α2 → α3 → α4 → α5 → α6 → α7 → α8 → α9 → α10 → α11 → α12 → α13 → α14 → α15 → α16 → α17 → α18 → α19 → α20 → α21 → α22 → α23 → Option γ} {u1 : α1} {u2 : α2} {u3 : α3} {u4 : α4} {u5 : α5} {u6 : α6} {u7 : α7} {u8 : α8} {u9 : α9} {u10 : α10} {u11 : α11} {u12 : α12} {u13 : α13} {u14 : α14} {u15 : α15} {u16 : α16} {u17 : α17} {u18 : α18} {u19 : α19} {u20 : α20} {u21 : α21} {u22 : α22} {u23 : α23} : bd23 (some (u1, u2, u3, u4, u5, u6, u7, u8, u9, u10, u11, u12, u13, u14, u15, u16, u17, u18, u19, u20, u21, u22, u23)) k = k u1 u2 u3 u4 u5 u6 u7 u8 u9 u10 u11 u12 u13 u14 u15 u16 u17 u18 u19 u20 u21 u22 u23 := rfl
def bs23 {α1 α2 α3 α4 α5 α6 α7 α8 α9 α10 α11 α12 α13 α14 α15 α16 α17 α18 α19 α20 α21 α22 α23 : Type} {ρ γ : Type} (x : Option ((α1 × α2 × α3 × α4 × α5 × α6 × α7 × α8 × α9 × α10 × α11 × α12 × α13 × α14 × α15 × α16 × α17 × α18 × α19 × α20 × α21 × α22 × α23) ⊕ ρ)) (ret : ρ → Option γ) (k : α1 → α2 → α3 → α4 → α5 → α6 → α7 → α8 → α9 → α10 → α11 → α12 → α13 → α14 → α15 → α16 → α17 → α18 → α19 → α20 → α21 → α22 → α23 → Option γ) : Option γ := match x with
  | some (.inl (u1, u2, u3, u4, u5, u6, u7, u8, u9, u10, u11, u12, u13, u14, u15, u16, u17, u18, u19, u20, u21, u22, u23)) => k u1 u2 u3 u4 u5 u6 u7 u8 u9 u10 u11 u12 u13 u14 u15 u16 u17 u18 u19 u20 u21 u22 u23
  | some (.inr q) => ret q
  | none => none
theorem bs23_e {α1 α2 α3 α4 α5 α6 α7 α8 α9 α10 α11 α12 α13 α14 α15 α16 α17 α18 α19 α20 α21 α22 α23 : Type} {ρ γ : Type} {x : Option ((α1 × α2 × α3 × α4 × α5 × α6 × α7 × α8 × α9 × α10 × α11 × α12 × α13 × α14 × α15 × α16 × α17 × α18 × α19 × α20 × α21 × α22 × α23) ⊕ ρ)} {ret : ρ → Option γ} {k : α1 → α2 → α3 → α4 → α5 → α6 → α7 → α8 → α9 → α10 → α11 → α12 → α13 → α14 → α15 → α16 → α17 → α18 → α19 → α20 → α21 → α22 → α23 → Option γ} {y : γ} (h : bs23 x ret k = some y) : ∃ z, x = some z ∧ (∀ u1 u2 u3 u4 u5 u6 u7 u8 u9 u10 u11 u12 u13 u14 u15 u16 u17 u18 u19 u20 u21 u22 u23, z = .inl (u1, u2, u3, u4, u5, u6, u7, u8, u9, u10, u11, u12, u13, u14, u15, u16, u17, u18, u19, u20, u21, u22, u23) → k u1 u2 u3 u4 u5 u6 u7 u8 u9 u10 u11 u12 u13 u14 u15 u16 u17 u18 u19 u20 u21 u22 u23 = some y) ∧ (∀ q, z = .inr q → ret q = some y) := by
  match x, h with
  | some (.inl (u1, u2, u3, u4, u5, u6, u7, u8, u9, u10, u11, u12, u13, u14, u15, u16, u17, u18, u19, u20, u21, u22, u23)), h => exact ⟨_, rfl, fun _ _ _ _ _ _ _ _ _ _ _ _ _ _ _ _ _ _ _ _ _ _ _ e => (by cases e; exact h), fun _ e => (by cases e)⟩
  | some (.inr q), h => exact ⟨_, rfl, fun _ _ _ _ _ _ _ _ _ _ _ _ _ _ _ _ _ _ _ _ _ _ _ e => (by cases e), fun _ e => (by cases e; exact h)⟩
  | none, h => exact (no_some (show none = some y from h)).elim
def bd24 {α1 α2 α3 α4 α5 α6 α7 α8 α9 α10 α11 α12 α13 α14 α15 α16 α17 α18 α19 α20 α21 α22 α23 α24 : Type} {γ : Type} (x : Option (α1 × α2 × α3 × α4 × α5 × α6 × α7 × α8 × α9 × α10 × α11 × α12 × α13 × α14 × α15 × α16 × α17 × α18 × α19 × α20 × α21 × α22 × α23 × α24)) (k : α1 → α2 → α3 → α4 → α5 → α6 → α7 → α8 → α9 → α10 → α11 → α12 → α13 → α14 → α15 → α16 → α17 → α18 → α19 → α20 → α21 → α22 → α23 → α24 → Option γ) : Option γ := match x with
  | some (u1, u2, u3, u4, u5, u6, u7, u8, u9, u10, u11, u12, u13, u14, u15, u16, u17, u18, u19, u20, u21, u22, u23, u24) => k u1 u2 u3 u4 u5 u6 u7 u8 u9 u10 u11 u12 u13 u14 u15 u16 u17 u18 u19 u20 u21 u22 u23 u24
  | none => none
theorem bd24_e {α1 α2 α3 α4 α5 α6 α7 α8 α9 α10 α11 α12 α13 α14 α15 α16 α17 α18 α19 α20 α21 α22 α23 α24 : Type} {γ : Type} {x : Option (α1 × α2 × α3 × α4 × α5 × α6 × α7 × α8 × α9 × α10 × α11 × α12 × α13 × α14 × α15 × α16 × α17 × α18 × α19 × α20 × α21 × α22 × α23 × α24)} {k : α1 → α2 → α3 → α4 → α5 → α6 → α7 → α8 → α9 → α10 → α11 → α12 → α13 → α14 → α15 → α16 → α17 → α18 → α19 → α20 → α21 → α22 → α23 → α24 → Option γ} {y : γ} (h : bd24 x k = some y) : ∃ u1 u2 u3 u4 u5 u6 u7 u8 u9 u10 u11 u12 u13 u14 u15 u16 u17 u18 u19 u20 u21 u22 u23 u24, x = some (u1, u2, u3, u4, u5, u6, u7, u8, u9, u10, u11, u12, u13, u14, u15, u16, u17, u18, u19, u20, u21, u22, u23, u24) ∧ k u1 u2 u3 u4 u5 u6 u7 u8 u9 u10 u11 u12 u13 u14 u15 u16 u17 u18 u19 u20 u21 u22 u23 u24 = some y := by
  match x, h with
  | some (u1, u2, u3, u4, u5, u6, u7, u8, u9, u10, u11, u12, u13, u14, u15, u16, u17, u18, u19, u20, u21, u22, u23, u24), h => exact ⟨u1, u2, u3, u4, u5, u6, u7, u8, u9, u10, u11, u12, u13, u14, u15, u16, u17, u18, u19, u20, u21, u22, u23, u24, rfl, h⟩
  | none, h => exact (no_some (show none = some y from h)).elim
theorem bd24_s {α1 α2 α3 α4 α5 α6 α7 α8 α9 α10 α11 α12 α13 α14 α15 α16 α17 α18 α19 α20 α21 α22 α23 α24 : Type} {γ : Type} {k : α1 → α2 → α3 → α4 → α5 → α6 → α7 → α8 → α9 → α10 → α11 → α12 → α13 → α14 → α15 → α16 → α17 → α18 → α19 → α20 → α21 → α22 → α23 → α24 → Option γ} {u1 : α1} {u2 : α2} {u3 : α3} {u4 : α4} {u5 : α5} {u6 : α6} {u7 : α7} {u8 : α8} {u9 : α9} {u10 : α10} {u11 : α11} {u12 : α12} {u13 : α13} {u14 : α14} {u15 : α15} {u16 : α16} {u17 : α17} {u18 : α18} {u19 : α19} {u20 : α20} {u21 : α21} {u22 : α22} {u23 : α23} {u24 : α24} : bd24 (some (u1, u2, u3, u4, u5, u6, u7, u8, u9, u10, u11, u12, u13, u14, u15, u16, u17, u18, u19, u20, u21, u22, u23, u24)) k = k u1 u2 u3 u4 u5 u6 u7 u8 u9 u10 u11 u12 u13 u14 u15 u16 u17 u18 u19 u20 u21 u22 u23 u24 := rfl
def bs24 {α1 α2 α3 α4 α5 α6 α7 α8 α9 α10 α11 α12 α13 α14 α15 α16 α17 α18 α19 α20 α21 α22 α23 α24 : Type} {ρ γ : Type} (x : Option ((α1 × α2 × α3 × α4 × α5 × α6 × α7 × α8 × α9 × α10 × α11 × α12 × α13 × α14 × α15 × α16 × α17 × α18 × α19 × α20 × α21 × α22 × α23 × α24) ⊕ ρ)) (ret : ρ → Option γ) (k : α1 → α2 → α3 → α4 → α5 → α6 → α7 → α8 → α9 → α10 → α11 → α12 → α13 → α14 → α15 → α16 → α17 → α18 → α19 → α20 → α21 → α22 → α23 → α24 → Option γ) : Option γ := match x with
  | some (.inl (u1, u2, u3, u4, u5, u6, u7, u8, u9, u10, u11, u12, u13, u14, u15, u16, u17, u18, u19, u20, u21, u22, u23, u24)) => k u1 u2 u3 u4 u5 u6 u7 u8 u9 u10 u11 u12 u13 u14 u15 u16 u17 u18 u19 u20 u21 u22 u23 u24
  | some (.inr q) => ret q
  | none => none
theorem bs24_e {α1 α2 α3 α4 α5 α6 α7 α8 α9 α10 α11 α12 α13 α14 α15 α16 α17 α18 α19 α20 α21 α22 α23 α24 : Type} {ρ γ : Type} {x : Option ((α1 × α2 × α3 × α4 × α5 × α6 × α7 × α8 × α9 × α10 × α11 × α12 × α13 × α14 × α15 × α16 × α17 × α18 × α19 × α20 × α21 × α22 × α23 × α24) ⊕ ρ)} {ret : ρ → Option γ} {k : α1 → α2 → α3 → α4 → α5 → α6 → α7 → α8 → α9 → α10 → α11 → α12 → α13 → α14 → α15 → α16 → α17 → α18 → α19 → α20 → α21 → α22 → α23 → α24 → Option γ} {y : γ} (h : bs24 x ret k = some y) : ∃ z, x = some z ∧ (∀ u1 u2 u3 u4 u5 u6 u7 u8 u9 u10 u11 u12 u13 u14 u15 u16 u17 u18 u19 u20 u21 u22 u23 u24, z = .inl (u1, u2, u3, u4, u5, u6, u7, u8, u9, u10, u11, u12, u13, u14, u15, u16, u17, u18, u19, u20, u21, u22, u23, u24) → k u1 u2 u3 u4 u5 u6 u7 u8 u9 u10 u11 u12 u13 u14 u15 u16 u17 u18 u19 u20 u21 u22 u23 u24 = some y) ∧ (∀ q, z = .inr q → ret q = some y) := by
  match x, h with
  | some (.inl (u1, u2, u3, u4, u5, u6, u7, u8, u9, u10, u11, u12, u13, u14, u15, u16, u17, u18, u19, u20, u21, u22, u23, u24)), h => exact ⟨_, rfl, fun _ _ _ _ _ _ _ _ _ _ _ _ _ _ _ _ _ _ _ _ _ _ _ _ e => (by cases e; exact h), fun _ e => (by cases e)⟩
  | some (.inr q), h => exact ⟨_, rfl, fun _ _ _ _ _ _ _ _ _ _ _ _ _ _ _ _ _ _ _ _ _ _ _ _ e => (by cases e), fun _ e => (by cases e; exact h)⟩
  | none, h => exact (no_some (show none = some y from h)).elim
def bd25 {α1 α2 α3 α4 α5 α6 α7 α8 α9 α10 α11 α12 α13 α14 α15 α16 α17 α18 α19 α20 α21 α22 α23 α24 α25 : Type} {γ : Type} (x : Option (α1 × α2 × α3 × α4 × α5 × α6 × α7 × α8 × α9 × α10 × α11 × α12 × α13 × α14 × α15 × α16 × α17 × α18 × α19 × α20 × α21 × α22 × α23 × α24 × α25)) (k : α1 → α2 → α3 → α4 → α5 → α6 → α7 → α8 → α9 → α10 → α11 → α12 → α13 → α14 → α15 → α16 → α17 → α18 → α19 → α20 → α21 → α22 → α23 → α24 → α25 → Option γ) : Option γ := match x with
  | some (u1, u2, u3, u4, u5, u6, u7, u8, u9, u10, u11, u12, u13, u14, u15, u16, u17, u18, u19, u20, u21, u22, u23, u24, u25) => k u1 u2 u3 u4 u5 u6 u7 u8 u9 u10 u11 u12 u13 u14 u15 u16 u17 u18 u19 u20 u21 u22 u23 u24 u25
  | none => none
theorem bd25_e {α1 α2 α3 α4 α5 α6 α7 α8 α9 α10 α11 α12 α13 α14 α15 α16 α17 α18 α19 α20 α21 α22 α23 α24 α25 : Type} {γ : Type} {x : Option (α1 × α2 × α3 × α4 × α5 × α6 × α7 × α8 × α9 × α10 × α11 × α12 × α13 × α14 × α15 × α16 × α17 × α18 × α19 × α20 × α21 × α22 × α23 × α24 × α25)} {k : α1 → α2 → α3 → α4 → α5 → α6 → α7 → α8 → α9 → α10 → α11 → α12 → α13 → α14 → α15 → α16 → α17 → α18 → α19 → α20 → α21 → α22 → α23 → α24 → α25 → Option γ} {y : γ} (h : bd25 x k = some y) : ∃ u1 u2 u3 u4 u5 u6 u7 u8 u9 u10 u11 u12 u13 u14 u15 u16 u17 u18 u19 u20 u21 u22 u23 u24 u25, x = some (u1, u2, u3, u4, u5, u6, u7, u8, u9, u10, u11, u12, u13, u14, u15, u16, u17, u18, u19, u20, u21, u22, u23, u24, u25) ∧ k u1 u2 u3 u4 u5 u6 u7 u8 u9 u10 u11 u12 u13 u14 u15 u16 u17 u18 u19 u20 u21 u22 u23 u24 u25 = some y := by
  match x, h with
  | some (u1, u2, u3, u4, u5, u6, u7, u8, u9, u10, u11, u12, u13, u14, u15, u16, u17, u18, u19, u20, u21, u22, u23, u24, u25), h => exact ⟨u1, u2, u3, u4, u5, u6, u7, u8, u9, u10, u11, u12, u13, u14, u15, u16, u17, u18, u19, u20, u21, u22, u23, u24, u25, rfl, h⟩
  | none, h => exact (no_some (show none = some y from h)).elim
theorem bd25_s {α1 α2 α3 α4 α5 α6 α7 α8 α9 α10 α11 α12 α13 α14 α15 α16 α17 α18 α19 α20 α21 α22 α23 α24 α25 : Type} {γ : Type} {k : α1 → α2 → α3 → α4 → α5 → α6 → α7 → α8 → α9 → α10 → α11 → α12 → α13 → α14 → α15 → α16 → α17 → α18 → α19 → α20 → α21 → α22 → α23 → α24 → α25 → Option γ} {u1 : α1} {u2 : α2} {u3 : α3} {u4 : α4} {u5 : α5} {u6 : α6} {u7 : α7} {u8 : α8} {u9 : α9} {u10 : α10} {u11 : α11} {u12 : α12} {u13 : α13} {u14 : α14} {u15 : α15} {u16 : α16} {u17 : α17} {u18 : α18} {u19 : α19} {u20 : α20} {u21 : α21} {u22 : α22} {u23 : α23} {u24 : α24} {u25 : α25} : bd25 (some (u1, u2, u3, u4, u5, u6, u7, u8, u9, u10, u11, u12, u13, u14, u15, u16, u17, u18, u19, u20, u21, u22, u23, u24, u25)) k = k u1 u2 u3 u4 u5 u6 u7 u8 u9 u10 u11 u12 u13 u14 u15 u16 u17 u18 u19 u20 u21 u22 u23 u24 u25 := rfl
def bd26 {α1 α2 α3 α4 α5 α6 α7 α8 α9 α10 α11 α12 α13 α14 α15 α16 α17 α18 α19 α20 α21 α22 α23 α24 α25 α26 : Type} {γ : Type} (x : Option (α1 × α2 × α3 × α4 × α5 × α6 × α7 × α8 × α9 × α10 × α11 × α12 × α13 × α14 × α15 × α16 × α17 × α18 × α19 × α20 × α21 × α22 × α23 × α24 × α25 × α26)) (k : α1 → α2 → α3 → α4 → α5 → α6 → α7 → α8 → α9 → α10 → α11 → α12 → α13 → α14 → α15 → α16 → α17 → α18 → α19 → α20 → α21 → α22 → α23 → α24 → α25 → α26 → Option γ) : Option γ := match x with
  | some (u1, u2, u3, u4, u5, u6, u7, u8, u9, u10, u11, u12, u13, u14, u15, u16, u17, u18, u19, u20, u21, u22, u23, u24, u25, u26) => k u1 u2 u3 u4 u5 u6 u7 u8 u9 u10 u11 u12 u13 u14 u15 u16 u17 u18 u19 u20 u21 u22 u23 u24 u25 u26
  | none => none
theorem bd26_e {α1 α2 α3 α4 α5 α6 α7 α8 α9 α10 α11 α12 α13 α14 α15 α16 α17 α18 α19 α20 α21 α22 α23 α24 α25 α26 : Type} {γ : Type} {x : Option (α1 × α2 × α3 × α4 × α5 × α6 × α7 × α8 × α9 × α10 × α11 × α12 × α13 × α14 × α15 × α16 × α17 × α18 × α19 × α20 × α21 × α22 × α23 × α24 × α25 × α26)} {k : α1 → α2 → α3 → α4 → α5 → α6 → α7 → α8 → α9 → α10 → α11 → α12 → α13 → α14 → α15 → α16 → α17 → α18 → α19 → α20 → α21 → α22 → α23 → α24 → α25 → α26 → Option γ} {y : γ} (h : bd26 x k = some y) : ∃ u1 u2 u3 u4 u5 u6 u7 u8 u9 u10 u11 u12 u13 u14 u15 u16 u17 u18 u19 u20 u21 u22 u23 u24 u25 u26, x = some (u1, u2, u3, u4, u5, u6, u7, u8, u9, u10, u11, u12, u13, u14, u15, u16, u17, u18, u19, u20, u21, u22, u23, u24, u25, u26) ∧ k u1 u2 u3 u4 u5 u6 u7 u8 u9 u10 u11 u12 u13 u14 u15 u16 u17 u18 u19 u20 u21 u22 u23 u24 u25 u26 = some y := by
  match x, h with
  | some (u1, u2, u3, u4, u5, u6, u7, u8, u9, u10, u11, u12, u13, u14, u15, u16, u17, u18, u19, u20, u21, u22, u23, u24, u25, u26), h => exact ⟨u1, u2, u3, u4, u5, u6, u7, u8, u9, u10, u11, u12, u13, u14, u15, u16, u17, u18, u19, u20, u21, u22, u23, u24, u25, u26, rfl, h⟩
  | none, h => exact (no_some (show none = some y from h)).elim
theorem bd26_s {α1 α2 α3 α4 α5 α6 α7 α8 α9 α10 α11 α12 α13 α14 α15 α16 α17 α18 α19 α20 α21 α22 α23 α24 α25 α26 : Type} {γ : Type} {k : α1 → α2 → α3 → α4 → α5 → α6 → α7 → α8 → α9 → α10 → α11 → α12 → α13 → α14 → α15 → α16 → α17 → α18 → α19 → α20 → α21 → α22 → α23 → α24 → α25 → α26 → Option γ} {u1 : α1} {u2 : α2} {u3 : α3} {u4 : α4} {u5 : α5} {u6 : α6} {u7 : α7} {u8 : α8} {u9 : α9} {u10 : α10} {u11 : α11} {u12 : α12} {u13 : α13} {u14 : α14} {u15 : α15} {u16 : α16} {u17 : α17} {u18 : α18} {u19 : α19} {u20 : α20} {u21 : α21} {u22 : α22} {u23 : α23} {u24 : α24} {u25 : α25} {u26 : α26} : bd26 (some (u1, u2, u3, u4, u5, u6, u7, u8, u9, u10, u11, u12, u13, u14, u15, u16, u17, u18, u19, u20, u21, u22, u23, u24, u25, u26)) k = k u1 u2 u3 u4 u5 u6 u7 u8 u9 u10 u11 u12 u13 u14 u15 u16 u17 u18 u19 u20 u21 u22 u23 u24 u25 u26 := rfl
def bd27 {α1 α2 α3 α4 α5 α6 α7 α8 α9 α10 α11 α12 α13 α14 α15 α16 α17 α18 α19 α20 α21 α22 α23 α24 α25 α26 α27 : Type} {γ : Type} (x : Option (α1 × α2 × α3 × α4 × α5 × α6 × α7 × α8 × α9 × α10 × α11 × α12 × α13 × α14 × α15 × α16 × α17 × α18 × α19 × α20 × α21 × α22 × α23 × α24 × α25 × α26 × α27)) (k : α1 → α2 → α3 → α4 → α5 → α6 → α7 → α8 → α9 → α10 → α11 → α12 → α13 → α14 → α15 → α16 → α17 → α18 → α19 → α20 → α21 → α22 → α23 → α24 → α25 → α26 → α27 → Option γ) : Option γ := match x with
  | some (u1, u2, u3, u4, u5, u6, u7, u8, u9, u10, u11, u12, u13, u14, u15, u16, u17, u18, u19, u20, u21, u22, u23, u24, u25, u26, u27) => k u1 u2 u3 u4 u5 u6 u7 u8 u9 u10 u11 u12 u13 u14 u15 u16 u17 u18 u19 u20 u21 u22 u23 u24 u25 u26 u27
  | none => none
theorem bd27_e {α1 α2 α3 α4 α5 α6 α7 α8 α9 α10 α11 α12 α13 α14 α15 α16 α17 α18 α19 α20 α21 α22 α23 α24 α25 α26 α27 : Type} {γ : Type} {x : Option (α1 × α2 × α3 × α4 × α5 × α6 × α7 × α8 × α9 × α10 × α11 × α12 × α13 × α14 × α15 × α16 × α17 × α18 × α19 × α20 × α21 × α22 × α23 × α24 × α25 × α26 × α27)} {k : α1 → α2 → α3 → α4 → α5 → α6 → α7 → α8 → α9 → α10 → α11 → α12 → α13 → α14 → α15 → α16 → α17 → α18 → α19 → α20 → α21 → α22 → α23 → α24 → α25 → α26 → α27 → Option γ} {y : γ} (h : bd27 x k = some y) : ∃ u1 u2 u3 u4 u5 u6 u7 u8 u9 u10 u11 u12 u13 u14 u15 u16 u17 u18 u19 u20 u21 u22 u23 u24 u25 u26 u27, x = some (u1, u2, u3, u4, u5, u6, u7, u8, u9, u10, u11, u12, u13, u14, u15, u16, u17, u18, u19, u20, u21, u22, u23, u24, u25, u26, u27) ∧ k u1 u2 u3 u4 u5 u6 u7 u8 u9 u10 u11 u12 u13 u14 u15 u16 u17 u18 u19 u20 u21 u22 u23 u24 u25 u26 u27 = some y := by
  match x, h with
  | some (u1, u2, u3, u4, u5, u6, u7, u8, u9, u10, u11, u12, u13, u14, u15, u16, u17, u18, u19, u20, u21, u22, u23, u24, u25, u26, u27), h => exact ⟨u1, u2, u3, u4, u5, u6, u7, u8, u9, u10, u11, u12, u13, u14, u15, u16, u17, u18, u19, u20, u21, u22, u23, u24, u25, u26, u27, rfl, h⟩
  | none, h => exact (no_some (show none = some y from h)).elim
theorem bd27_s {α1 α2 α3 α4 α5 α6 α7 α8 α9 α10 α11 α12 α13 α14 α15 α16 α17 α18 α19 α20 α21 α22 α23 α24 α25 α26 α27 : Type} {γ : Type} {k : α1 → α2 → α3 → α4 → α5 → α6 → α7 → α8 → α9 → α10 → α11 → α12 → α13 → α14 → α15 → α16 → α17 → α18 → α19 → α20 → α21 → α22 → α23 → α24 → α25 → α26 → α27 → Option γ} {u1 : α1} {u2 : α2} {u3 : α3} {u4 : α4} {u5 : α5} {u6 : α6} {u7 : α7} {u8 : α8} {u9 : α9} {u10 : α10} {u11 : α11} {u12 : α12} {u13 : α13} {u14 : α14} {u15 : α15} {u16 : α16} {u17 : α17} {u18 : α18} {u19 : α19} {u20 : α20} {u21 : α21} {u22 : α22} {u23 : α23} {u24 : α24} {u25 : α25} {u26 : α26} {u27 : α27} : bd27 (some (u1, u2, u3, u4, u5, u6, u7, u8, u9, u10, u11, u12, u13, u14, u15, u16, u17, u18, u19, u20, u21, u22, u23, u24, u25, u26, u27)) k = k u1 u2 u3 u4 u5 u6 u7 u8 u9 u10 u11 u12 u13 u14 u15 u16 u17 u18 u19 u20 u21 u22 u23 u24 u25 u26 u27 := rfl
def bd28 {α1 α2 α3 α4 α5 α6 α7 α8 α9 α10 α11 α12 α13 α14 α15 α16 α17 α18 α19 α20 α21 α22 α23 α24 α25 α26 α27 α28 : Type} {γ : Type} (x : Option (α1 × α2 × α3 × α4 × α5 × α6 × α7 × α8 × α9 × α10 × α11 × α12 × α13 × α14 × α15 × α16 × α17 × α18 × α19 × α20 × α21 × α22 × α23 × α24 × α25 × α26 × α27 × α28)) (k : α1 → α2 → α3 → α4 → α5 → α6 → α7 → α8 → α9 → α10 → α11 → α12 → α13 → α14 → α15 → α16 → α17 → α18 → α19 → α20 → α21 → α22 → α23 → α24 → α25 → α26 → α27 → α28 → Option γ) : Option γ := match x with
  | some (u1, u2, u3, u4, u5, u6, u7, u8, u9, u10, u11, u12, u13, u14, u15, u16, u17, u18, u19, u20, u21, u22, u23, u24, u25, u26, u27, u28) => k u1 u2 u3 u4 u5 u6 u7 u8 u9 u10 u11 u12 u13 u14 u15 u16 u17 u18 u19 u20 u21 u22 u23 u24 u25 u26 u27 u28
  | none => none
theorem bd28_e {α1 α2 α3 α4 α5 α6 α7 α8 α9 α10 α11 α12 α13 α14 α15 α16 α17 α18 α19 α20 α21 α22 α23 α24 α25 α26 α27 α28 : Type} {γ : Type} {x : Option (α1 × α2 × α3 × α4 × α5 × α6 × α7 × α8 × α9 × α10 × α11 × α12 × α13 × α14 × α15 × α16 × α17 × α18 × α19 × α20 × α21 × α22 × α23 × α24 × α25 × α26 × α27 × α28)} {k : α1 → α2 → α3 → α4 → α5 → α6 → α7 → α8 → α9 → α10 → α11 → α12 → α13 → α14 → α15 → α16 → α17 → α18 → α19 → α20 → α21 → α22 → α23 → α24 → α25 → α26 → α27 → α28 → Option γ} {y : γ} (h : bd28 x k = some y) : ∃ u1 u2 u3 u4 u5 u6 u7 u8 u9 u10 u11 u12 u13 u14 u15 u16 u17 u18 u19 u20 u21 u22 u23 u24 u25 u26 u27 u28, x = some (u1, u2, u3, u4, u5, u6, u7, u8, u9, u10, u11, u12, u13, u14, u15, u16, u17, u18, u19, u20, u21, u22, u23, u24, u25, u26, u27, u28) ∧ k u1 u2 u3 u4 u5 u6 u7 u8 u9 u10 u11 u12 u13 u14 u15 u16 u17 u18 u19 u20 u21 u22 u23 u24 u25 u26 u27 u28 = some y := by
  match x, h with
  | some (u1, u2, u3, u4, u5, u6, u7, u8, u9, u10, u11, u12, u13, u14, u15, u16, u17, u18, u19, u20, u21, u22, u23, u24, u25, u26, u27, u28), h => exact ⟨u1, u2, u3, u4, u5, u6, u7, u8, u9, u10, u11, u12, u13, u14, u15, u16, u17, u18, u19, u20, u21, u22, u23, u24, u25, u26, u27, u28, rfl, h⟩
  | none, h => exact (no_some (show none = some y from h)).elim
theorem bd28_s {α1 α2 α3 α4 α5 α6 α7 α8 α9 α10 α11 α12 α13 α14 α15 α16 α17 α18 α19 α20 α21 α22 α23 α24 α25 α26 α27 α28 : Type} {γ : Type} {k : α1 → α2 → α3 → α4 → α5 → α6 → α7 → α8 → α9 → α10 → α11 → α12 → α13 → α14 → α15 → α16 → α17 → α18 → α19 → α20 → α21 → α22 → α23 → α24 → α25 → α26 → α27 → α28 → Option γ} {u1 : α1} {u2 : α2} {u3 : α3} {u4 : α4} {u5 : α5} {u6 : α6} {u7 : α7} {u8 : α8} {u9 : α9} {u10 : α10} {u11 : α11} {u12 : α12} {u13 : α13} {u14 : α14} {u15 : α15} {u16 : α16} {u17 : α17} {u18 : α18} {u19 : α19} {u20 : α20} {u21 : α21} {u22 : α22} {u23 : α23} {u24 : α24} {u25 : α25} {u26 : α26} {u27 : α27} {u28 : α28} : bd28 (some (u1, u2, u3, u4, u5, u6, u7, u8, u9, u10, u11, u12, u13, u14, u15, u16, u17, u18, u19, u20, u21, u22, u23, u24, u25, u26, u27, u28)) k = k u1 u2 u3 u4 u5 u6 u7 u8 u9 u10 u11 u12 u13 u14 u15 u16 u17 u18 u19 u20 u21 u22 u23 u24 u25 u26 u27 u28 := rfl
