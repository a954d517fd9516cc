/-! ===== this project's own rows: functions that may fail, loops, worlds, contracts ===== -/
def lp {α : Type} (b : α → α) (z : α) : Nat → α
  | 0 => z
  | n + 1 => b (lp b z n)
def gd {α : Type} (c : Prop) [Decidable c] (k : Option α) : Option α := if c then k else none
theorem gd_e {α : Type} {c : Prop} [Decidable c] {k : Option α} {r : α} (h : gd c k = some r) : c ∧ k = some r := by
  unfold gd at h
  by_cases hc : c
  · rw [if_pos hc] at h; exact ⟨hc, h⟩
  · rw [if_neg hc] at h; cases h
theorem gd_p {α : Type} {c : Prop} [Decidable c] {k : Option α} (hc : c) : gd c k = k := if_pos hc
theorem it_p {α : Type} {c : Prop} [Decidable c] {a b x : α} (hc : c) (h : (if c then a else b) = x) : a = x := by rw [if_pos hc] at h; exact h
theorem it_n {α : Type} {c : Prop} [Decidable c] {a b x : α} (hc : ¬ c) (h : (if c then a else b) = x) : b = x := by rw [if_neg hc] at h; exact h
theorem no_some {α : Type} {x : α} (h : (none : Option α) = some x) : False := by cases h
theorem nb_ok {v : Int32} (h : v = 0 ∨ v = 1) : narrow .boolean (.int v) = .int v := by
  rcases h with rfl | rfl <;> rfl
/-- the cells of a list put at places of another -/
def setAll {β : Type} : List β → List Nat → List β → List β
  | ws, i :: is, c :: cs => setAll (ws.set i c) is cs
  | ws, _, _ => ws
theorem setAll_at {β : Type} : ∀ (is : List Nat) (cs ws : List β) (k : Nat) (q : β), is.length = cs.length → (setAll ws is cs)[k]? = some q → (∃ j : Nat, is[j]? = some k ∧ cs[j]? = some q) ∨ (k ∉ is ∧ ws[k]? = some q)
  | [], cs, ws, k, q, _, h => by
    right
    refine ⟨List.not_mem_nil, ?_⟩
    cases cs <;> exact h
  | i :: is, [], ws, k, q, hl, h => by simp at hl
  | i :: is, c :: cs, ws, k, q, hl, h => by
    have hl' : is.length = cs.length := by simpa using hl
    rcases setAll_at is cs (ws.set i c) k q hl' h with ⟨j, h1, h2⟩ | ⟨h1, h2⟩
    · exact Or.inl ⟨j + 1, by simpa using h1, by simpa using h2⟩
    · by_cases hk : i = k
      · subst hk
        left
        refine ⟨0, rfl, ?_⟩
        rw [List.getElem?_set] at h2
        by_cases hlt : i < ws.length
        · simp [hlt] at h2; simp [h2]
        · simp [hlt] at h2
      · right
        refine ⟨fun hm => ?_, ?_⟩
        · rcases List.mem_cons.mp hm with e | e
          · exact hk e.symm
          · exact h1 e
        · rw [List.getElem?_set_ne hk] at h2; exact h2
/-- private members of nest mates, by their links -/
def nwF : List (String × Nat × String × String × String) := [
  ("NeedleToTheMissed", 105, "NeedleToTheMissed$Voyage", "cells", "[I"), ("NeedleToTheMissed", 120, "NeedleToTheMissed$Voyage", "ship", "I"),
  ("NeedleToTheMissed", 154, "NeedleToTheMissed$Voyage", "hands", "I"), ("NeedleToTheMissed", 166, "NeedleToTheMissed$Voyage", "rows", "I"),
  ("NeedleToTheMissed", 169, "NeedleToTheMissed$Voyage", "columns", "I"), ("NeedleToTheMissed", 177, "NeedleToTheMissed$Voyage", "places", "I"),
  ("NeedleToTheMissed", 212, "NeedleToTheMissed$Storm", "chances", "[J"), ("NeedleToTheMissed", 216, "NeedleToTheMissed$Storm", "all", "J"),
  ("NeedleToTheMissed", 236, "NeedleToTheMissed$Lot", "seed", "I"), ("NeedleToTheMissed", 253, "NeedleToTheMissed$Voyage", "day", "I"),
  ("NeedleToTheMissed", 256, "NeedleToTheMissed$Voyage", "aboard", "I"), ("NeedleToTheMissed", 57, "NeedleToTheMissed$Text", "size", "I"),
  ("NeedleToTheMissed", 86, "NeedleToTheMissed$Voyage", "kinds", "[I"), ("NeedleToTheMissed", 89, "NeedleToTheMissed$Voyage", "figures", "[I"),
  ("NeedleToTheMissed", 92, "NeedleToTheMissed$Voyage", "longings", "[I"), ("NeedleToTheMissed", 95, "NeedleToTheMissed$Voyage", "seas", "[I"),
  ("NeedleToTheMissed$Lot", 22, "NeedleToTheMissed$Voyage", "ship", "I"), ("NeedleToTheMissed$Lot", 27, "NeedleToTheMissed$Voyage", "hands", "I"),
  ("NeedleToTheMissed$Lot", 30, "NeedleToTheMissed$Voyage", "seas", "[I"), ("NeedleToTheMissed$Storm", 18, "NeedleToTheMissed$Voyage", "ship", "I")]
def nwM : List (String × Nat × MethodName) := [
  ("NeedleToTheMissed", 9, yX3_init), ("NeedleToTheMissed", 24, yX2_init), ("NeedleToTheMissed", 31, yX1_init), ("NeedleToTheMissed", 38, yX0_init),
  ("NeedleToTheMissed$Text", 29, yX4_kindOf), ("NeedleToTheMissed$Voyage", 100, yX4_rowOf), ("NeedleToTheMissed$Voyage", 103, yX4_columnOf), ("NeedleToTheMissed$Voyage", 53, yX4_steps)]
def NW (U : State) : Prop := (∀ q ∈ nwF, va_Nw (.fieldLinkNest q.1 q.2.1 q.2.2.1 q.2.2.2.1 q.2.2.2.2 RX4) U) ∧ ∀ q ∈ nwM, va_Nw (.methodLinkNest q.1 q.2.1 q.2.2 RX4) U
theorem NW.warm {s U : State} (hW : s.WarmedH U.vm) (h : NW s) : NW U := ⟨fun q hq => va_Nw.warmF hW (h.1 q hq), fun q hq => va_Nw.warmM hW (h.2 q hq)⟩
theorem NW.same {u U : State} (hv : u.vm = U.vm) (h : NW u) : NW U := ⟨fun q hq => va_Nw.same rfl hv (h.1 q hq), fun q hq => va_Nw.same rfl hv (h.2 q hq)⟩
theorem NW.f {s : State} (h : NW s) (k : Nat) {args : Array Value} {q : String × Nat × String × String × String} (hq : nwF[k]? = some q) : (Cond.fieldLinkNest q.1 q.2.1 q.2.2.1 q.2.2.2.1 q.2.2.2.2 RX4).before args s = true := va_Nw.use rfl (h.1 q (List.mem_of_getElem? hq))
theorem NW.m {s : State} (h : NW s) (k : Nat) {q : String × Nat × MethodName} (hq : nwM[k]? = some q) : va_Nw (.methodLinkNest q.1 q.2.1 q.2.2 RX4) s := h.2 q (List.mem_of_getElem? hq)
/-- the one String constant, and the static that its methods read -/
def ST (A : Nat → Prop) (U : State) (H : Heap) : Prop := ∃ aK aV : Nat, vk_R RX4 298 "hbmwqd" aK U ∧ vk_S 1 [6] [[104, 98, 109, 119, 113, 100]] (fun _ => aK) (fun _ => aV) A U H ∧ va_Z "java/lang/String" "COMPACT_STRINGS" "Z" (.int 1) A U H
theorem ST.same {A : Nat → Prop} {u U : State} {H : Heap} (hv : U.vm = u.vm) (h : ST A u H) : ST A U H := by
  obtain ⟨aK, aV, h1, h2, h3⟩ := h
  have hal : u.vm.Alike U.vm := by rw [hv]; exact Vm.Alike.refl _
  exact ⟨aK, aV, h1.same hv, h2.moved hal, h3.moved hal⟩
theorem ST.go {A B : Nat → Prop} {s U : State} {H0 H : Heap} (h : ST A s H0) (hW : s.WarmedH U.vm) (hk : ∀ q : Nat, q < H0.size → ¬ A q → H[q]? = H0[q]?) (hB : ∀ q, B q → A q) : ST B U H := by
  obtain ⟨aK, aV, h1, h2, h3⟩ := h
  exact ⟨aK, aV, h1.warm hW, ((h2.kept hk).narrow hB).moved hW.alike, ((h3.kept hk).narrow hB).moved hW.alike⟩
abbrev tyL (cI cJ : ClassId) : List (ClassId × FieldType) := [(cI, .int), (cJ, .long)]
/-- a world: the cells and their being apart -/
def WD (D : va_G) (A : Nat → Prop) (ws : va_W) (H : Heap) : Prop := va_P D vwCl ws H ∧ va_D A ws
/-- the start and the ends of a contract -/
def sPc (D : va_G) (tys : List (ClassId × FieldType)) (ws : va_W) (sz : Nat) (U : State) : Prop := U.heap.size = sz ∧ va_P D vwCl ws U.heap ∧ va_K D vwCl tys U ∧ va_D (fun _ => True) ws ∧ NW U ∧ ST (va_A ws sz) U U.heap
def aft (D : va_G) (tys : List (ClassId × FieldType)) (A : Nat → Prop) (ws' : va_W) (t : State) : Prop := va_P D vwCl ws' t.heap ∧ va_K D vwCl tys t ∧ va_D A ws'
def qI (D : va_G) (tys : List (ClassId × FieldType)) (ws : va_W) (sz : Nat) (ws' : va_W) (r : Int32) : Array Value → State → Outcome → State → Prop := va_Qi (fun (r' : Int32) (_ : Unit) => r' = r) (fun _ t => aft D tys (va_A ws sz) ws' t) (va_A ws sz)
def qL (D : va_G) (tys : List (ClassId × FieldType)) (ws : va_W) (sz : Nat) (ws' : va_W) (r : Int64) : Array Value → State → Outcome → State → Prop := va_Ql (fun (r' : Int64) (_ : Unit) => r' = r) (fun _ t => aft D tys (va_A ws sz) ws' t) (va_A ws sz)
def qV (D : va_G) (tys : List (ClassId × FieldType)) (ws : va_W) (sz : Nat) (ws' : va_W) : Array Value → State → Outcome → State → Prop := va_Qv (fun (_ : Unit) => True) (fun _ t => aft D tys (va_A ws sz) ws' t) (va_A ws sz)
theorem sPc_blind {D : va_G} {tys : List (ClassId × FieldType)} {ws : va_W} {sz : Nat} {av : List Value} : FrameBlind (va_Pc av (sPc D tys ws sz)) := by
  intro a U g mk q
  obtain ⟨q0, q1, qP, qK, qD, qN, qT⟩ := q
  exact ⟨q0, q1, qP, va_K.moved (u := U) (U := U.calling g mk a) (Vm.Alike.refl U.vm) qK, qD, qN.same rfl, ST.same (u := U) (U := U.calling g mk a) rfl qT⟩
/-- what a method's body knows of its machine -/
def Cx (p : Program) (s : State) (m : MethodId) (args : Array Value) (c : Code) (cc : ByteArray) (nL : Nat) (Ts : List Cond) (own : String) (D : va_G) (tys : List (ClassId × FieldType)) (A : Nat → Prop) : Prop :=
  CallFix p m c cc nL s args Ts own ∧ va_K D vwCl tys s ∧ NW s ∧ ST A s s.heap ∧ ∀ q, s.heap.size ≤ q → A q
section PK1
variable {l : Launch} {y : MethodName} {ws : List Cond} {rm : Room} {cc : ByteArray} {maxL : Nat} {D : va_G} {tys : List (ClassId × FieldType)} {wd wd' : va_W} {sz : Nat} {av : List Value}
theorem st_i {ws' : List Cond} {ty : FieldType} {r : Int32} (hy : plainName y.cls = true) (hw : ws = Cond.code y cc maxL (some ty) :: ws') (hav : (lg_sl av).length ≤ maxL)
    (body : ∀ (p : Program) (e : Env) (s : State) (m : MethodId) (args : Array Value) (below : List Frame) (meth : Method) (c : Code) (A : Nat → Prop) (Q : State → Prop), Cx p s m args c cc maxL ws y.cls D tys A →
      (∀ (pc : Nat) (H : Heap) (locs : List Loc) (ls : Array Slot), narrow ty (.int r) = .int r → decode cc pc = .ok (.ireturn, 1) → WD D A wd' H → va_S A s.heap H locs → W p l e rm s m args below meth c H locs 0 0 Q (F0 m pc ls [.int r])) →
      ∀ (H : Heap) (locs : List Loc), WD D A wd H → va_S A s.heap H locs → ∀ ls : Array Slot, lv_has ls maxL (lv_args 0 av) → W p l e rm s m args below meth c H locs 0 0 Q (F0 m 0 ls [])) :
    Met l y ws rm (va_Pc av (sPc D tys wd sz)) (qI D tys wd sz wd' r) 0 0 (va_A wd sz) := by
  refine Met.ofW (cc := cc) (maxL := maxL) (ret := some ty) hy hw ?_
  intro p e s m args below meth c s₁ B hml hv
  obtain ⟨hargs, hsz, hP, hK, hD0, hN, hT⟩ := hv
  subst hsz
  have hD := hD0.self (sz := s.heap.size)
  have hl := lv_entry av (n := maxL) hav
  have hts := atoms_spec (ws := ws) B.pre
  have hown : s.vm.findClass y.cls = some m.cls := findClass_of_methodNamed B.named
  have hlocks := B.notSynchronized
  have hE : entryFrame m args maxL = F0 m 0 ((lg_sl av ++ List.replicate (maxL - (lg_sl av).length) Slot.unset).toArray) [] := by rw [hargs]; exact lg_entry_eq m av maxL
  rw [hE]
  exact body p e s m args below meth c _ _ ⟨⟨B.exec, B.bytes, hml, hown, hts⟩, hK, hN, hT, fun q h => Or.inr h⟩
    (fun pc H locs ls hn hd hPD hS => W.zret B.exec B.bytes B.returns hn (fun t ht hW => ⟨⟨r, (), rfl, rfl, by rw [ht]; exact hPD.1, va_K.moved hW.alike hK, hPD.2⟩, hS.F ht⟩) hS.2.2 hd) s.heap [] ⟨hP, hD⟩ va_S.rf _ hl
theorem st_l {ws' : List Cond} {r : Int64} (hy : plainName y.cls = true) (hw : ws = Cond.code y cc maxL (some .long) :: ws') (hav : (lg_sl av).length ≤ maxL)
    (body : ∀ (p : Program) (e : Env) (s : State) (m : MethodId) (args : Array Value) (below : List Frame) (meth : Method) (c : Code) (A : Nat → Prop) (Q : State → Prop), Cx p s m args c cc maxL ws y.cls D tys A →
      (∀ (pc : Nat) (H : Heap) (locs : List Loc) (ls : Array Slot), decode cc pc = .ok (.lreturn, 1) → WD D A wd' H → va_S A s.heap H locs → W p l e rm s m args below meth c H locs 0 0 Q (F0 m pc ls [.long r])) →
      ∀ (H : Heap) (locs : List Loc), WD D A wd H → va_S A s.heap H locs → ∀ ls : Array Slot, lv_has ls maxL (lv_args 0 av) → W p l e rm s m args below meth c H locs 0 0 Q (F0 m 0 ls [])) :
    Met l y ws rm (va_Pc av (sPc D tys wd sz)) (qL D tys wd sz wd' r) 0 0 (va_A wd sz) := by
  refine Met.ofW (cc := cc) (maxL := maxL) (ret := some .long) hy hw ?_
  intro p e s m args below meth c s₁ B hml hv
  obtain ⟨hargs, hsz, hP, hK, hD0, hN, hT⟩ := hv
  subst hsz
  have hD := hD0.self (sz := s.heap.size)
  have hl := lv_entry av (n := maxL) hav
  have hts := atoms_spec (ws := ws) B.pre
  have hown : s.vm.findClass y.cls = some m.cls := findClass_of_methodNamed B.named
  have hlocks := B.notSynchronized
  have hE : entryFrame m args maxL = F0 m 0 ((lg_sl av ++ List.replicate (maxL - (lg_sl av).length) Slot.unset).toArray) [] := by rw [hargs]; exact lg_entry_eq m av maxL
  rw [hE]
  exact body p e s m args below meth c _ _ ⟨⟨B.exec, B.bytes, hml, hown, hts⟩, hK, hN, hT, fun q h => Or.inr h⟩
    (fun pc H locs ls hd hPD hS => W.lret B.exec B.bytes B.returns (fun t ht hW => ⟨⟨r, (), rfl, rfl, by rw [ht]; exact hPD.1, va_K.moved hW.alike hK, hPD.2⟩, hS.F ht⟩) hS.2.2 hd) s.heap [] ⟨hP, hD⟩ va_S.rf _ hl
theorem st_v {ws' : List Cond} (hy : plainName y.cls = true) (hw : ws = Cond.code y cc maxL none :: ws') (hav : (lg_sl av).length ≤ maxL)
    (body : ∀ (p : Program) (e : Env) (s : State) (m : MethodId) (args : Array Value) (below : List Frame) (meth : Method) (c : Code) (A : Nat → Prop) (Q : State → Prop), Cx p s m args c cc maxL ws y.cls D tys A →
      (∀ (pc : Nat) (H : Heap) (locs : List Loc) (ls : Array Slot), decode cc pc = .ok (.return_, 1) → WD D A wd' H → va_S A s.heap H locs → W p l e rm s m args below meth c H locs 0 0 Q (F0 m pc ls [])) →
      ∀ (H : Heap) (locs : List Loc), WD D A wd H → va_S A s.heap H locs → ∀ ls : Array Slot, lv_has ls maxL (lv_args 0 av) → W p l e rm s m args below meth c H locs 0 0 Q (F0 m 0 ls [])) :
    Met l y ws rm (va_Pc av (sPc D tys wd sz)) (qV D tys wd sz wd') 0 0 (va_A wd sz) := by
  refine Met.ofW (cc := cc) (maxL := maxL) (ret := none) hy hw ?_
  intro p e s m args below meth c s₁ B hml hv
  obtain ⟨hargs, hsz, hP, hK, hD0, hN, hT⟩ := hv
  subst hsz
  have hD := hD0.self (sz := s.heap.size)
  have hl := lv_entry av (n := maxL) hav
  have hts := atoms_spec (ws := ws) B.pre
  have hown : s.vm.findClass y.cls = some m.cls := findClass_of_methodNamed B.named
  have hlocks := B.notSynchronized
  have hE : entryFrame m args maxL = F0 m 0 ((lg_sl av ++ List.replicate (maxL - (lg_sl av).length) Slot.unset).toArray) [] := by rw [hargs]; exact lg_entry_eq m av maxL
  rw [hE]
  exact body p e s m args below meth c _ _ ⟨⟨B.exec, B.bytes, hml, hown, hts⟩, hK, hN, hT, fun q h => Or.inr h⟩
    (fun pc H locs ls hd hPD hS => W.vret B.exec B.bytes B.returns (fun t ht hW => ⟨⟨(), rfl, trivial, by rw [ht]; exact hPD.1, va_K.moved hW.alike hK, hPD.2⟩, hS.F ht⟩) hS.2.2 hd) s.heap [] ⟨hP, hD⟩ va_S.rf _ hl
end PK1
section PK2
variable {p : Program} {l : Launch} {e : Env} {R : Room} {s : State} {m : MethodId} {args : Array Value} {below : List Frame} {meth : Method} {c : Code} {H : Heap} {locs : List Loc} {cells slots : Nat} {Q : State → Prop}
variable {cc : ByteArray} {pc nL : Nat} {ls : Array Slot} {rest st0 : List Value} {Ts : List Cond} {own : String} {D : va_G} {tys : List (ClassId × FieldType)} {A : Nat → Prop} {wd wc wc' : va_W}
theorem wd_cut {isC : List Nat} (hP : WD D A wd H) (hn : va_nd isC = true) (hC : isC.map (fun i => wd[i]?) = wc.map some) : WD D A wc H := by
  refine ⟨hP.1.sub isC ?_, hP.2.sub isC hn hC⟩
  clear hn hP
  induction isC generalizing wc with
  | nil => cases wc with
    | nil => rfl
    | cons a b => simp at hC
  | cons i is ih => cases wc with
    | nil => simp at hC
    | cons a b =>
      simp only [List.map_cons, List.cons.injEq] at hC
      rw [List.filterMap_cons, hC.1]
      simp [ih hC.2]
theorem map_at {isC : List Nat} {wd wc : va_W} (hC : isC.map (fun i => wd[i]?) = wc.map some) (j : Nat) (q : Nat × va_E) (h : wc[j]? = some q) : ∃ i : Nat, isC[j]? = some i ∧ wd[i]? = some q := by
  have h1 : (isC.map (fun i => wd[i]?))[j]? = some (some q) := by rw [hC, List.getElem?_map, h]; rfl
  rw [List.getElem?_map] at h1
  cases hi : isC[j]? with
  | none => rw [hi] at h1; cases h1
  | some i => rw [hi] at h1; exact ⟨i, rfl, by simpa using h1⟩
theorem map_to {isC : List Nat} {wd wc : va_W} (hC : isC.map (fun i => wd[i]?) = wc.map some) (j i : Nat) (h : isC[j]? = some i) : ∃ q, wc[j]? = some q ∧ wd[i]? = some q := by
  have h1 : (wc.map some)[j]? = some (wd[i]?) := by rw [← hC, List.getElem?_map, h]; rfl
  rw [List.getElem?_map] at h1
  cases hq : wc[j]? with
  | none => rw [hq] at h1; cases h1
  | some q => rw [hq] at h1; exact ⟨q, rfl, by simpa using h1.symm⟩
/-- what came back put at its places: the frame rule -/
theorem wd_back {isC : List Nat} {H1 : Heap} (hP : WD D A wd H) (hC : isC.map (fun i => wd[i]?) = wc.map some) (ha : wc'.map (·.1) = wc.map (·.1))
    (hk : ∀ q : Nat, q < H.size → ¬ va_A wc H.size q → H1[q]? = H[q]?) (hP1 : va_P D vwCl wc' H1) : WD D A (setAll wd isC wc') H1 := by
  have hlen : isC.length = wc'.length := by
    have h1 := congrArg List.length hC
    have h2 := congrArg List.length ha
    simp only [List.length_map] at h1 h2
    rw [h1, h2]
  have adr : ∀ (k : Nat) (q : Nat × va_E), (setAll wd isC wc')[k]? = some q → ∃ q0, wd[k]? = some q0 ∧ q0.1 = q.1 := by
    intro k q h
    rcases setAll_at isC wc' wd k q hlen h with ⟨j, h1, h2⟩ | ⟨-, h2⟩
    · obtain ⟨q0, g1, g2⟩ := map_to hC j k h1
      refine ⟨q0, g2, ?_⟩
      have h3 : (wc'.map (·.1))[j]? = some q.1 := by rw [List.getElem?_map, h2]; rfl
      rw [ha, List.getElem?_map, g1] at h3
      simpa using h3
    · exact ⟨q, h2, rfl⟩
  refine ⟨fun k q h => ?_, fun i j x y hx hy hxy => ?_, fun k q h => ?_⟩
  · rcases setAll_at isC wc' wd k q hlen h with ⟨j, h1, h2⟩ | ⟨h1, h2⟩
    · exact hP1 j q h2
    · have hlt := (hP.1 k q h2).lt
      refine (hP.1 k q h2).kept (hk q.1 hlt (fun hA => ?_))
      rcases hA with ⟨j, e0, hj⟩ | hj
      · obtain ⟨i, g1, g2⟩ := map_at hC j _ hj
        have := hP.2.1 k i q (q.1, e0) h2 g2 rfl
        subst this
        exact h1 (List.mem_of_getElem? g1)
      · omega
  · obtain ⟨x0, h1, h2⟩ := adr i x hx
    obtain ⟨y0, g1, g2⟩ := adr j y hy
    exact hP.2.1 i j x0 y0 h1 g1 (by rw [h2, g2, hxy])
  · obtain ⟨q0, h1, h2⟩ := adr k q h
    rw [← h2]; exact hP.2.2 k q0 h1
theorem pre_s {av : List Value} (F : Cx p s m args c cc nL Ts own D tys A) (hS : va_S A s.heap H locs) (hF : ∀ q, va_A wc H.size q → A q) (hPc : WD D A wc H) : PreS s H (va_Pc av (sPc D tys wc H.size)) av :=
  ⟨sPc_blind, fun U hU hW => ⟨rfl, by rw [hU], by rw [hU]; exact hPc.1, va_K.moved hW.alike F.2.1, hPc.2.weaken (fun _ _ _ _ => trivial), F.2.2.1.warm hW, by rw [hU]; exact F.2.2.2.1.go hW hS.2.1 hF⟩⟩
theorem af_i {r : Int32} {a : Array Value} {isC : List Nat} (hr : va_Run p l e R s m args below meth c H locs cells slots 0 0 (F0 m pc ls st0) rest (qI D tys wc H.size wc' r a) (va_A wc H.size)) (hF : ∀ q, va_A wc H.size q → A q) (hP : WD D A wd H) (hS : va_S A s.heap H locs) (hC : isC.map (fun i => wd[i]?) = wc.map some) (ha : wc'.map (·.1) = wc.map (·.1))
    (kk : ∀ (H1 : Heap) (locs1 : List Loc), WD D A (setAll wd isC wc') H1 → va_S A s.heap H1 locs1 → W p l e R s m args below meth c H1 locs1 cells slots Q (F0 m (pc + 3) ls (.int r :: rest))) : W p l e R s m args below meth c H locs cells slots Q (F0 m pc ls st0) := by
  refine va_calli (S := Unit) hr hS (fun q _ h => hF q h) hF (fun r' u t H1 locs1 ht hvm hw hB hz hk hS1 => ?_)
  obtain ⟨hP1, hK1, hD1⟩ := hB
  rw [ht] at hP1
  subst hw
  exact kk H1 locs1 (wd_back hP hC ha hk hP1) hS1
theorem af_l {r : Int64} {a : Array Value} {isC : List Nat} (hr : va_Run p l e R s m args below meth c H locs cells slots 0 0 (F0 m pc ls st0) rest (qL D tys wc H.size wc' r a) (va_A wc H.size)) (hF : ∀ q, va_A wc H.size q → A q) (hP : WD D A wd H) (hS : va_S A s.heap H locs) (hC : isC.map (fun i => wd[i]?) = wc.map some) (ha : wc'.map (·.1) = wc.map (·.1))
    (kk : ∀ (H1 : Heap) (locs1 : List Loc), WD D A (setAll wd isC wc') H1 → va_S A s.heap H1 locs1 → W p l e R s m args below meth c H1 locs1 cells slots Q (F0 m (pc + 3) ls (.long r :: rest))) : W p l e R s m args below meth c H locs cells slots Q (F0 m pc ls st0) := by
  refine va_calll (S := Unit) hr hS (fun q _ h => hF q h) hF (fun r' u t H1 locs1 ht hvm hw hB hz hk hS1 => ?_)
  obtain ⟨hP1, hK1, hD1⟩ := hB
  rw [ht] at hP1
  subst hw
  exact kk H1 locs1 (wd_back hP hC ha hk hP1) hS1
theorem af_v {a : Array Value} {isC : List Nat} (hr : va_Run p l e R s m args below meth c H locs cells slots 0 0 (F0 m pc ls st0) rest (qV D tys wc H.size wc' a) (va_A wc H.size)) (hF : ∀ q, va_A wc H.size q → A q) (hP : WD D A wd H) (hS : va_S A s.heap H locs) (hC : isC.map (fun i => wd[i]?) = wc.map some) (ha : wc'.map (·.1) = wc.map (·.1))
    (kk : ∀ (H1 : Heap) (locs1 : List Loc), WD D A (setAll wd isC wc') H1 → va_S A s.heap H1 locs1 → W p l e R s m args below meth c H1 locs1 cells slots Q (F0 m (pc + 3) ls rest)) : W p l e R s m args below meth c H locs cells slots Q (F0 m pc ls st0) := by
  refine va_callv (S := Unit) hr hS (fun q _ h => hF q h) hF (fun u t H1 locs1 ht hvm hw hB hz hk hS1 => ?_)
  obtain ⟨hP1, hK1, hD1⟩ := hB
  rw [ht] at hP1
  exact kk H1 locs1 (wd_back hP hC ha hk hP1) hS1
variable {y : MethodName} {bytes : ByteArray} {maxL n index : Nat} {ret : Option FieldType} {wsy : List Cond} {rm : Room} {C : String} {b : Nat} {As : List Value}
/-- the frame of a callee lies within the caller's -/
theorem wd_free {isC : List Nat} (F : Cx p s m args c cc nL Ts own D tys A) (hP : WD D A wd H) (hS : va_S A s.heap H locs) (hC : isC.map (fun i => wd[i]?) = wc.map some) : ∀ q, va_A wc H.size q → A q := va_free hP.2 hS F.2.2.2.2 isC hC
theorem cV_i {r : Int32} {ci : Nat} {fs : List Value} {T : u_T} {N : Nat} (F : Cx p s m args c cc nL Ts own D tys A) (hM : Met l y wsy rm (va_Pc (.ref b :: As) (sPc D tys wc H.size)) (qI D tys wc H.size wc' r) 0 0 (va_A wc H.size)) (cw : CallW R s args own C index y bytes maxL ret wsy rm 0 0 n) (isC : List Nat) (hP : WD D A wd H) (hS : va_S A s.heap H locs) (hn : va_nd isC = true) (hC : isC.map (fun i => wd[i]?) = wc.map some) (ha : wc'.map (·.1) = wc.map (·.1)) (q0 : Nat) (hq0 : wc[q0]? = some (b, .inr (ci, fs))) (hci : vwCl[ci]? = some (C, T, N)) (hlen : As.length = n) (hsize : ls.size = nL) (hW : (rest.map fun v => v.category).sum ≤ 8) (hf : cells ≤ R.cells ∧ slots ≤ R.slots) (hst : st0 = As.reverse ++ .ref b :: rest) (hdg : decode cc pc = .ok (.invokevirtual index, 3))
    (kk : ∀ (H1 : Heap) (locs1 : List Loc), WD D A (setAll wd isC wc') H1 → va_S A s.heap H1 locs1 → W p l e R s m args below meth c H1 locs1 cells slots Q (F0 m (pc + 3) ls (.int r :: rest))) : W p l e R s m args below meth c H locs cells slots Q (F0 m pc ls st0) := by
  have hF := wd_free F hP hS hC
  have hPc := wd_cut hP hn hC
  refine af_i (isC := isC) (va_runV (As := As) (rest := rest) F.1 hM cw ⟨(pre_s F hS hF hPc).1, va_recv F.2.1 hPc.1 hci hq0, (pre_s F hS hF hPc).2⟩ rfl hlen hsize hst (lv_room hW) hdg ⟨by simpa using hf.1, by simpa using hf.2⟩) hF hP hS hC ha kk
theorem cS_i {r : Int32} (F : Cx p s m args c cc nL Ts own D tys A) (hM : Met l y wsy rm (va_Pc As (sPc D tys wc H.size)) (qI D tys wc H.size wc' r) 0 0 (va_A wc H.size)) (cw : CallB R s args own index y bytes maxL ret wsy rm 0 0 n ∧ (Cond.static y).before args s = true) (isC : List Nat) (hP : WD D A wd H) (hS : va_S A s.heap H locs) (hn : va_nd isC = true) (hC : isC.map (fun i => wd[i]?) = wc.map some) (ha : wc'.map (·.1) = wc.map (·.1)) (hlen : As.length = n) (hsize : ls.size = nL) (hW : (rest.map fun v => v.category).sum ≤ 8) (hf : cells ≤ R.cells ∧ slots ≤ R.slots) (hst : st0 = As.reverse ++ rest) (hdg : decode cc pc = .ok (.invokestatic index, 3))
    (kk : ∀ (H1 : Heap) (locs1 : List Loc), WD D A (setAll wd isC wc') H1 → va_S A s.heap H1 locs1 → W p l e R s m args below meth c H1 locs1 cells slots Q (F0 m (pc + 3) ls (.int r :: rest))) : W p l e R s m args below meth c H locs cells slots Q (F0 m pc ls st0) := by
  have hF := wd_free F hP hS hC
  have hPc := wd_cut hP hn hC
  refine af_i (isC := isC) (va_runS (As := As) (rest := rest) F.1 hM cw (pre_s F hS hF hPc) rfl hlen hsize hst (lv_room hW) hdg ⟨by simpa using hf.1, by simpa using hf.2⟩) hF hP hS hC ha kk
theorem cN_i {r : Int32} {host : String} (F : Cx p s m args c cc nL Ts own D tys A) (hM : Met l y wsy rm (va_Pc As (sPc D tys wc H.size)) (qI D tys wc H.size wc' r) 0 0 (va_A wc H.size)) (cw : va_CN R s args own index y host bytes maxL ret wsy rm 0 0 n ∧ (Cond.static y).before args s = true ∧ True) (isC : List Nat) (hP : WD D A wd H) (hS : va_S A s.heap H locs) (hn : va_nd isC = true) (hC : isC.map (fun i => wd[i]?) = wc.map some) (ha : wc'.map (·.1) = wc.map (·.1)) (hlen : As.length = n) (hsize : ls.size = nL) (hW : (rest.map fun v => v.category).sum ≤ 8) (hf : cells ≤ R.cells ∧ slots ≤ R.slots) (hst : st0 = As.reverse ++ rest) (hdg : decode cc pc = .ok (.invokestatic index, 3))
    (kk : ∀ (H1 : Heap) (locs1 : List Loc), WD D A (setAll wd isC wc') H1 → va_S A s.heap H1 locs1 → W p l e R s m args below meth c H1 locs1 cells slots Q (F0 m (pc + 3) ls (.int r :: rest))) : W p l e R s m args below meth c H locs cells slots Q (F0 m pc ls st0) := by
  have hF := wd_free F hP hS hC
  have hPc := wd_cut hP hn hC
  refine af_i (isC := isC) (va_runSN (As := As) (rest := rest) F.1 hM cw (pre_s F hS hF hPc) rfl hlen hsize hst (lv_room hW) hdg ⟨by simpa using hf.1, by simpa using hf.2⟩) hF hP hS hC ha kk
theorem cV_l {r : Int64} {ci : Nat} {fs : List Value} {T : u_T} {N : Nat} (F : Cx p s m args c cc nL Ts own D tys A) (hM : Met l y wsy rm (va_Pc (.ref b :: As) (sPc D tys wc H.size)) (qL D tys wc H.size wc' r) 0 0 (va_A wc H.size)) (cw : CallW R s args own C index y bytes maxL ret wsy rm 0 0 n) (isC : List Nat) (hP : WD D A wd H) (hS : va_S A s.heap H locs) (hn : va_nd isC = true) (hC : isC.map (fun i => wd[i]?) = wc.map some) (ha : wc'.map (·.1) = wc.map (·.1)) (q0 : Nat) (hq0 : wc[q0]? = some (b, .inr (ci, fs))) (hci : vwCl[ci]? = some (C, T, N)) (hlen : As.length = n) (hsize : ls.size = nL) (hW : (rest.map fun v => v.category).sum ≤ 8) (hf : cells ≤ R.cells ∧ slots ≤ R.slots) (hst : st0 = As.reverse ++ .ref b :: rest) (hdg : decode cc pc = .ok (.invokevirtual index, 3))
    (kk : ∀ (H1 : Heap) (locs1 : List Loc), WD D A (setAll wd isC wc') H1 → va_S A s.heap H1 locs1 → W p l e R s m args below meth c H1 locs1 cells slots Q (F0 m (pc + 3) ls (.long r :: rest))) : W p l e R s m args below meth c H locs cells slots Q (F0 m pc ls st0) := by
  have hF := wd_free F hP hS hC
  have hPc := wd_cut hP hn hC
  refine af_l (isC := isC) (va_runV (As := As) (rest := rest) F.1 hM cw ⟨(pre_s F hS hF hPc).1, va_recv F.2.1 hPc.1 hci hq0, (pre_s F hS hF hPc).2⟩ rfl hlen hsize hst (lv_room hW) hdg ⟨by simpa using hf.1, by simpa using hf.2⟩) hF hP hS hC ha kk
theorem cS_l {r : Int64} (F : Cx p s m args c cc nL Ts own D tys A) (hM : Met l y wsy rm (va_Pc As (sPc D tys wc H.size)) (qL D tys wc H.size wc' r) 0 0 (va_A wc H.size)) (cw : CallB R s args own index y bytes maxL ret wsy rm 0 0 n ∧ (Cond.static y).before args s = true) (isC : List Nat) (hP : WD D A wd H) (hS : va_S A s.heap H locs) (hn : va_nd isC = true) (hC : isC.map (fun i => wd[i]?) = wc.map some) (ha : wc'.map (·.1) = wc.map (·.1)) (hlen : As.length = n) (hsize : ls.size = nL) (hW : (rest.map fun v => v.category).sum ≤ 8) (hf : cells ≤ R.cells ∧ slots ≤ R.slots) (hst : st0 = As.reverse ++ rest) (hdg : decode cc pc = .ok (.invokestatic index, 3))
    (kk : ∀ (H1 : Heap) (locs1 : List Loc), WD D A (setAll wd isC wc') H1 → va_S A s.heap H1 locs1 → W p l e R s m args below meth c H1 locs1 cells slots Q (F0 m (pc + 3) ls (.long r :: rest))) : W p l e R s m args below meth c H locs cells slots Q (F0 m pc ls st0) := by
  have hF := wd_free F hP hS hC
  have hPc := wd_cut hP hn hC
  refine af_l (isC := isC) (va_runS (As := As) (rest := rest) F.1 hM cw (pre_s F hS hF hPc) rfl hlen hsize hst (lv_room hW) hdg ⟨by simpa using hf.1, by simpa using hf.2⟩) hF hP hS hC ha kk
theorem cV_v {ci : Nat} {fs : List Value} {T : u_T} {N : Nat} (F : Cx p s m args c cc nL Ts own D tys A) (hM : Met l y wsy rm (va_Pc (.ref b :: As) (sPc D tys wc H.size)) (qV D tys wc H.size wc') 0 0 (va_A wc H.size)) (cw : CallW R s args own C index y bytes maxL ret wsy rm 0 0 n) (isC : List Nat) (hP : WD D A wd H) (hS : va_S A s.heap H locs) (hn : va_nd isC = true) (hC : isC.map (fun i => wd[i]?) = wc.map some) (ha : wc'.map (·.1) = wc.map (·.1)) (q0 : Nat) (hq0 : wc[q0]? = some (b, .inr (ci, fs))) (hci : vwCl[ci]? = some (C, T, N)) (hlen : As.length = n) (hsize : ls.size = nL) (hW : (rest.map fun v => v.category).sum ≤ 8) (hf : cells ≤ R.cells ∧ slots ≤ R.slots) (hst : st0 = As.reverse ++ .ref b :: rest) (hdg : decode cc pc = .ok (.invokevirtual index, 3))
    (kk : ∀ (H1 : Heap) (locs1 : List Loc), WD D A (setAll wd isC wc') H1 → va_S A s.heap H1 locs1 → W p l e R s m args below meth c H1 locs1 cells slots Q (F0 m (pc + 3) ls (rest))) : W p l e R s m args below meth c H locs cells slots Q (F0 m pc ls st0) := by
  have hF := wd_free F hP hS hC
  have hPc := wd_cut hP hn hC
  refine af_v (isC := isC) (va_runV (As := As) (rest := rest) F.1 hM cw ⟨(pre_s F hS hF hPc).1, va_recv F.2.1 hPc.1 hci hq0, (pre_s F hS hF hPc).2⟩ rfl hlen hsize hst (lv_room hW) hdg ⟨by simpa using hf.1, by simpa using hf.2⟩) hF hP hS hC ha kk
theorem cS_v (F : Cx p s m args c cc nL Ts own D tys A) (hM : Met l y wsy rm (va_Pc As (sPc D tys wc H.size)) (qV D tys wc H.size wc') 0 0 (va_A wc H.size)) (cw : CallB R s args own index y bytes maxL ret wsy rm 0 0 n ∧ (Cond.static y).before args s = true) (isC : List Nat) (hP : WD D A wd H) (hS : va_S A s.heap H locs) (hn : va_nd isC = true) (hC : isC.map (fun i => wd[i]?) = wc.map some) (ha : wc'.map (·.1) = wc.map (·.1)) (hlen : As.length = n) (hsize : ls.size = nL) (hW : (rest.map fun v => v.category).sum ≤ 8) (hf : cells ≤ R.cells ∧ slots ≤ R.slots) (hst : st0 = As.reverse ++ rest) (hdg : decode cc pc = .ok (.invokestatic index, 3))
    (kk : ∀ (H1 : Heap) (locs1 : List Loc), WD D A (setAll wd isC wc') H1 → va_S A s.heap H1 locs1 → W p l e R s m args below meth c H1 locs1 cells slots Q (F0 m (pc + 3) ls (rest))) : W p l e R s m args below meth c H locs cells slots Q (F0 m pc ls st0) := by
  have hF := wd_free F hP hS hC
  have hPc := wd_cut hP hn hC
  refine af_v (isC := isC) (va_runS (As := As) (rest := rest) F.1 hM cw (pre_s F hS hF hPc) rfl hlen hsize hst (lv_room hW) hdg ⟨by simpa using hf.1, by simpa using hf.2⟩) hF hP hS hC ha kk
end PK2
