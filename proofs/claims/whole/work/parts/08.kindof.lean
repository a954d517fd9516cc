def kdx (c : Int32) : Int32 := if c = 104 then 0 else if c = 98 then 1 else if c = 109 then 2 else if c = 119 then 3 else if c = 113 then 4 else if c = 100 then 5 else -1
theorem eSX4_kindOf : yX4_kindOf.cls ≠ "java/lang/invoke/MethodHandle" ∧ yX4_kindOf.cls ≠ "java/lang/invoke/VarHandle" ∧ (parseMethodDescriptor yX4_kindOf.desc).map (fun d => d.parameters.length) = some 1 := by decide +kernel
abbrev rmX4_kindOf : Room := { frames := 5, cells := 0, slots := 0, locals := 120 }
def fX4_kindOf (g : Nat) (p0 : Int32) : Option Int32 := some (kdx (p0.toUInt32 % 65536).toInt32)
/-! ===== the String constant's own methods: walked by hand ===== -/
theorem ldcwS {p : Program} {l : Launch} {e : Env} {R : Room} {s : State} {m : MethodId} {args : Array Value} {below : List Frame} {meth : Method} {c : Code} {T : State} {locs : List Loc} {cells slots : Nat}
    (X : Stand p l e R s m args below meth c T locs cells slots) (hexec : p.tables.exec = Jvm.exec) {own text : String} {index : Nat} {a : Addr} (hown : s.vm.findClass own = some m.cls)
    (hconst : (Cond.stringRef own index text).before args s = true) (hev : (Term.string own index).eval args s none [] s = some (.ref a)) {g : JFrame} (hg : g.method = m) (hdg : decode c.code g.pc = .ok (.ldc_w index, 3)) :
    ∀ target, Steps p.tables e below (T.setTop { g with pc := g.pc + 3, stack := .ref a :: g.stack }) target → Steps p.tables e below (T.setTop g) target := by
  obtain ⟨k, cf, i, a', hk, hcf, hcp, -, hr, hev'⟩ := Cond.stringRef_spec hown hconst
  cases hev.symm.trans hev'
  obtain ⟨k', hk', he⟩ := X.warmed.alike.2.2 _ _ hk
  have hr' : k'.resolved[index]? = some (some (.string a)) := by
    rcases X.warmed.entry hk hk' index with h | ⟨h, -⟩
    · rw [h]; exact hr
    · rw [hr] at h; cases h
  intro target hrest
  subst hg
  jvm_step X.here [hexec, hdg, ldc_w.wp_string (e := e) (s := T) (f := g) X.here.top hk' (by rw [he]; exact hcf) hcp hr']
  exact hrest
def kb : List Int32 := [104, 98, 109, 119, 113, 100]
def SKc (aK aV : Nat) (A : Nat → Prop) (U : State) (H : Heap) : Prop := vk_S 1 [6] [[104, 98, 109, 119, 113, 100]] (fun _ => aK) (fun _ => aV) A U H ∧ va_Z "java/lang/String" "COMPACT_STRINGS" "Z" (.int 1) A U H
theorem SKc.same {aK aV : Nat} {A : Nat → Prop} {u U : State} {H : Heap} (hv : U.vm = u.vm) (h : SKc aK aV A u H) : SKc aK aV A U H := by
  have hal : u.vm.Alike U.vm := by rw [hv]; exact Vm.Alike.refl _
  exact ⟨h.1.moved hal, h.2.moved hal⟩
theorem SKc.go {aK aV : Nat} {A B : Nat → Prop} {s U : State} {H0 H : Heap} (h : SKc aK aV A s H0) (hW : s.WarmedH U.vm) (hk : ∀ q : Nat, q < H0.size → ¬ A q → H[q]? = H0[q]?) (hB : ∀ q, B q → A q) : SKc aK aV B U H :=
  ⟨((h.1.kept hk).narrow hB).moved hW.alike, ((h.2.kept hk).narrow hB).moved hW.alike⟩
def jPc (aK aV sz : Nat) (U : State) : Prop := U.heap.size = sz ∧ SKc aK aV (va_A [] sz) U U.heap
def qJ (sz : Nat) (r : Int32) : Array Value → State → Outcome → State → Prop := va_Qi (fun (r' : Int32) (_ : Unit) => r' = r) (fun _ _ => True) (va_A [] sz)
theorem jPc_blind {aK aV sz : Nat} {av : List Value} : FrameBlind (va_Pc av (jPc aK aV sz)) := by
  intro a U g mk q
  obtain ⟨q0, q1, q2⟩ := q
  exact ⟨q0, q1, SKc.same (u := U) (U := U.calling g mk a) rfl q2⟩
def Jx (p : Program) (s : State) (m : MethodId) (args : Array Value) (c : Code) (cc : ByteArray) (nL : Nat) (Ts : List Cond) (own : String) (aK aV : Nat) (A : Nat → Prop) : Prop :=
  CallFix p m c cc nL s args Ts own ∧ SKc aK aV A s s.heap ∧ ∀ q, s.heap.size ≤ q → A q
section PKJ
variable {l : Launch} {y : MethodName} {ws : List Cond} {rm : Room} {cc : ByteArray} {maxL : Nat} {aK aV sz : Nat} {av : List Value}
theorem jt {ws' : List Cond} {ty : FieldType} {r : Int32} (hy : plainName y.cls = true) (hw : ws = Cond.code y cc maxL (some ty) :: ws') (hav : (lg_sl av).length ≤ maxL)
    (body : ∀ (p : Program) (e : Env) (s : State) (m : MethodId) (args : Array Value) (below : List Frame) (meth : Method) (c : Code) (A : Nat → Prop) (Q : State → Prop), Jx p s m args c cc maxL ws y.cls aK aV A →
      (∀ (pc : Nat) (H : Heap) (locs : List Loc) (ls : Array Slot), narrow ty (.int r) = .int r → decode cc pc = .ok (.ireturn, 1) → va_S A s.heap H locs → W p l e rm s m args below meth c H locs 0 0 Q (F0 m pc ls [.int r])) →
      ∀ (H : Heap) (locs : List Loc), va_S A s.heap H locs → ∀ ls : Array Slot, lv_has ls maxL (lv_args 0 av) → W p l e rm s m args below meth c H locs 0 0 Q (F0 m 0 ls [])) :
    Met l y ws rm (va_Pc av (jPc aK aV sz)) (qJ sz r) 0 0 (va_A [] sz) := by
  refine Met.ofW (cc := cc) (maxL := maxL) (ret := some ty) hy hw ?_
  intro p e s m args below meth c s₁ B hml hv
  obtain ⟨hargs, hsz, hT⟩ := hv
  subst hsz
  have hl := lv_entry av (n := maxL) hav
  have hts := atoms_spec (ws := ws) B.pre
  have hown : s.vm.findClass y.cls = some m.cls := findClass_of_methodNamed B.named
  have hlocks := B.notSynchronized
  have hE : entryFrame m args maxL = F0 m 0 ((lg_sl av ++ List.replicate (maxL - (lg_sl av).length) Slot.unset).toArray) [] := by rw [hargs]; exact lg_entry_eq m av maxL
  rw [hE]
  exact body p e s m args below meth c _ _ ⟨⟨B.exec, B.bytes, hml, hown, hts⟩, hT, fun q h => Or.inr h⟩
    (fun pc H locs ls hn hd hS => W.zret B.exec B.bytes B.returns hn (fun t ht hW => ⟨⟨r, (), rfl, rfl, trivial⟩, hS.F ht⟩) hS.2.2 hd) s.heap [] va_S.rf _ hl
variable {p : Program} {e : Env} {R : Room} {s : State} {m : MethodId} {args : Array Value} {below : List Frame} {meth : Method} {c : Code} {H : Heap} {locs : List Loc} {cells slots : Nat} {Q : State → Prop}
variable {pc nL : Nat} {ls : Array Slot} {rest st0 : List Value} {Ts : List Cond} {own : String} {A : Nat → Prop}
variable {bytes : ByteArray} {n index : Nat} {ret : Option FieldType} {wsy : List Cond} {As : List Value}
theorem jfree (F : Jx p s m args c cc nL Ts own aK aV A) (hS : va_S A s.heap H locs) : ∀ q, va_A [] H.size q → A q := by
  intro q h
  rcases h with ⟨k, e0, hk⟩ | h
  · simp at hk
  · exact F.2.2 q (Nat.le_trans hS.1 h)
theorem jpre (F : Jx p s m args c cc nL Ts own aK aV A) (hS : va_S A s.heap H locs) : ∀ U : State, U.heap = H → s.WarmedH U.vm → va_Pc As (jPc aK aV H.size) As.toArray U :=
  fun U hU hW => ⟨rfl, by rw [hU], by rw [hU]; exact F.2.1.go hW hS.2.1 (jfree F hS)⟩
theorem jS {r : Int32} (F : Jx p s m args c cc nL Ts own aK aV A) (hM : Met l y wsy rm (va_Pc As (jPc aK aV H.size)) (qJ H.size r) 0 0 (va_A [] H.size)) (cw : CallB R s args own index y bytes maxL ret wsy rm 0 0 n ∧ (Cond.static y).before args s = true) (hS : va_S A s.heap H locs) (hlen : As.length = n) (hsize : ls.size = nL) (hW : (rest.map fun v => v.category).sum ≤ 8) (hf : cells ≤ R.cells ∧ slots ≤ R.slots) (hst : st0 = As.reverse ++ rest) (hdg : decode cc pc = .ok (.invokestatic index, 3))
    (kk : ∀ (H1 : Heap) (locs1 : List Loc), va_S A s.heap H1 locs1 → W p l e R s m args below meth c H1 locs1 cells slots Q (F0 m (pc + 3) ls (.int r :: rest))) : W p l e R s m args below meth c H locs cells slots Q (F0 m pc ls st0) := by
  have hF := jfree F hS
  refine va_calli (S := Unit) (va_runS (As := As) (rest := rest) F.1 hM cw ⟨jPc_blind, jpre F hS⟩ rfl hlen hsize hst (lv_room hW) hdg ⟨by simpa using hf.1, by simpa using hf.2⟩) hS (fun q _ h => hF q h) hF (fun r' u t H1 locs1 ht hvm hw hB hz hk hS1 => ?_)
  subst hw
  exact kk H1 locs1 hS1
theorem jV {r : Int32} (F : Jx p s m args c cc nL Ts own aK aV A) (hM : Met l y wsy rm (va_Pc (.ref aK :: As) (jPc aK aV H.size)) (qJ H.size r) 0 0 (va_A [] H.size)) (cw : CallW R s args own "java/lang/String" index y bytes maxL ret wsy rm 0 0 n) (hS : va_S A s.heap H locs) (hlen : As.length = n) (hsize : ls.size = nL) (hW : (rest.map fun v => v.category).sum ≤ 8) (hf : cells ≤ R.cells ∧ slots ≤ R.slots) (hst : st0 = As.reverse ++ .ref aK :: rest) (hdg : decode cc pc = .ok (.invokevirtual index, 3))
    (kk : ∀ (H1 : Heap) (locs1 : List Loc), va_S A s.heap H1 locs1 → W p l e R s m args below meth c H1 locs1 cells slots Q (F0 m (pc + 3) ls (.int r :: rest))) : W p l e R s m args below meth c H locs cells slots Q (F0 m pc ls st0) := by
  have hF := jfree F hS
  refine va_calli (S := Unit) (va_runV (As := As) (rest := rest) F.1 hM cw ⟨jPc_blind, vk_recv (i := 0) F.2.1.1 (by decide) hS, jpre F hS⟩ rfl hlen hsize hst (lv_room hW) hdg ⟨by simpa using hf.1, by simpa using hf.2⟩) hS (fun q _ h => hF q h) hF (fun r' u t H1 locs1 ht hvm hw hB hz hk hS1 => ?_)
  subst hw
  exact kk H1 locs1 hS1
/-- COMPACT_STRINGS, the coder, the bytes -/
theorem jZ (F : Jx p s m args c cc nL Ts own aK aV A) (hS : va_S A s.heap H locs) (hlk : Cond.fieldLink own index "java/lang/String" "COMPACT_STRINGS" "Z" ∈ Ts) (hdg : decode cc pc = .ok (.getstatic index, 3))
    (kk : W p l e R s m args below meth c H locs cells slots Q (F0 m (pc + 3) ls (.int 1 :: rest))) : W p l e R s m args below meth c H locs cells slots Q (F0 m pc ls rest) :=
  va_gets F.1.1 F.1.2.1 F.2.1.2 hS F.1.2.2.2.1 (F.1.2.2.2.2 _ hlk) (fun _ h => h) hdg kk
theorem jC (F : Jx p s m args c cc nL Ts own aK aV A) (hS : va_S A s.heap H locs) (hlk : Cond.fieldLink own index "java/lang/String" "coder" "B" ∈ Ts) (hdg : decode cc pc = .ok (.getfield index, 3))
    (kk : W p l e R s m args below meth c H locs cells slots Q (F0 m (pc + 3) ls (.int 0 :: rest))) : W p l e R s m args below meth c H locs cells slots Q (F0 m pc ls (.ref aK :: rest)) :=
  vk_getf F.1.1 F.1.2.1 (F.2.1.1.1 0 (by decide)).2.1 hS F.1.2.2.2.1 (F.1.2.2.2.2 _ hlk) (fun _ h => h) hdg kk
theorem jB (F : Jx p s m args c cc nL Ts own aK aV A) (hS : va_S A s.heap H locs) (hlk : Cond.fieldLink own index "java/lang/String" "value" "[B" ∈ Ts) (hdg : decode cc pc = .ok (.getfield index, 3))
    (kk : W p l e R s m args below meth c H locs cells slots Q (F0 m (pc + 3) ls (.ref aV :: rest))) : W p l e R s m args below meth c H locs cells slots Q (F0 m pc ls (.ref aK :: rest)) :=
  vk_getf F.1.1 F.1.2.1 (F.2.1.1.1 0 (by decide)).2.2.1 hS F.1.2.2.2.1 (F.1.2.2.2.2 _ hlk) (fun _ h => h) hdg kk
theorem jT (F : Jx p s m args c cc nL Ts own aK aV A) : va_T .byte aV 6 (fun j => .int (kb.getD j 0)) A s s.heap := (F.2.1.1.1 0 (by decide)).2.2.2
end PKJ
theorem eVJ_isL : yJ0_isLatin1_aae02.cls = RJ0 ∧ yJ0_isLatin1_aae02.cls ≠ "java/lang/invoke/MethodHandle" ∧ yJ0_isLatin1_aae02.cls ≠ "java/lang/invoke/VarHandle" ∧ (parseMethodDescriptor yJ0_isLatin1_aae02.desc).map (fun d => d.parameters.length) = some 0 := by decide +kernel
theorem eVJ_cod : yJ0_coder_7d493.cls = RJ0 ∧ yJ0_coder_7d493.cls ≠ "java/lang/invoke/MethodHandle" ∧ yJ0_coder_7d493.cls ≠ "java/lang/invoke/VarHandle" ∧ (parseMethodDescriptor yJ0_coder_7d493.desc).map (fun d => d.parameters.length) = some 0 := by decide +kernel
theorem eVJ_len : yJ0_length_8abf5.cls = RJ0 ∧ yJ0_length_8abf5.cls ≠ "java/lang/invoke/MethodHandle" ∧ yJ0_length_8abf5.cls ≠ "java/lang/invoke/VarHandle" ∧ (parseMethodDescriptor yJ0_length_8abf5.desc).map (fun d => d.parameters.length) = some 0 := by decide +kernel
theorem eVJ_ix2 : yJ0_indexOf_7cf53.cls = RJ0 ∧ yJ0_indexOf_7cf53.cls ≠ "java/lang/invoke/MethodHandle" ∧ yJ0_indexOf_7cf53.cls ≠ "java/lang/invoke/VarHandle" ∧ (parseMethodDescriptor yJ0_indexOf_7cf53.desc).map (fun d => d.parameters.length) = some 2 := by decide +kernel
theorem eVJ_ix1 : yJ0_indexOf_0f7a4.cls = RJ0 ∧ yJ0_indexOf_0f7a4.cls ≠ "java/lang/invoke/MethodHandle" ∧ yJ0_indexOf_0f7a4.cls ≠ "java/lang/invoke/VarHandle" ∧ (parseMethodDescriptor yJ0_indexOf_0f7a4.desc).map (fun d => d.parameters.length) = some 1 := by decide +kernel
theorem eSJ_can : yJ1_canEncode_9a6ad.cls ≠ "java/lang/invoke/MethodHandle" ∧ yJ1_canEncode_9a6ad.cls ≠ "java/lang/invoke/VarHandle" ∧ (parseMethodDescriptor yJ1_canEncode_9a6ad.desc).map (fun d => d.parameters.length) = some 1 := by decide +kernel
theorem eSJ_ixc : yJ1_indexOfChar_4cfef.cls ≠ "java/lang/invoke/MethodHandle" ∧ yJ1_indexOfChar_4cfef.cls ≠ "java/lang/invoke/VarHandle" ∧ (parseMethodDescriptor yJ1_indexOfChar_4cfef.desc).map (fun d => d.parameters.length) = some 4 := by decide +kernel
theorem eSJ_ix4 : yJ1_indexOf_4cfef.cls ≠ "java/lang/invoke/MethodHandle" ∧ yJ1_indexOf_4cfef.cls ≠ "java/lang/invoke/VarHandle" ∧ (parseMethodDescriptor yJ1_indexOf_4cfef.desc).map (fun d => d.parameters.length) = some 4 := by decide +kernel
abbrev rmJ_0 : Room := { frames := 0, cells := 0, slots := 0, locals := 0 }
abbrev rmJ_len : Room := { frames := 1, cells := 0, slots := 0, locals := 20 }
abbrev rmJ_ix4 : Room := { frames := 1, cells := 0, slots := 0, locals := 30 }
abbrev rmJ_ix2 : Room := { frames := 2, cells := 0, slots := 0, locals := 60 }
abbrev rmJ_ix1 : Room := { frames := 3, cells := 0, slots := 0, locals := 90 }
theorem kJ_isL (l : Launch) (aK aV sz : Nat) : Met l yJ0_isLatin1_aae02 wsJ0_isLatin1_aae02 rmJ_0 (va_Pc [.ref aK] (jPc aK aV sz)) (qJ sz 1) 0 0 (va_A [] sz) := by
  refine jt (cc := cJ0_isLatin1_aae02) (maxL := 1) (by decide) rfl (Nat.le_of_ble_eq_true rfl) ?_
  intro p e s m args below meth c A Q F hret H locs hS ls hl
  have F : Jx p s m args c cJ0_isLatin1_aae02 1 wsJ0_isLatin1_aae02 RJ0 aK aV A := F
  have hx := F.1.1
  have hb := F.1.2.1
  have hl : lv_has ls 1 [(0, .ref aK)] := hl
  refine jZ F hS (List.mem_cons_of_mem _ (List.mem_of_getElem? (i := 0) rfl)) dJ0_isLatin1_aae02_0 ?_
  refine lv_if_eq (tgt := 17) hx hb dJ0_isLatin1_aae02_3 (by decide) (fun h => absurd h (by decide)) (fun _ => ?_)
  refine lv_aload_n hx hb dJ0_isLatin1_aae02_6 rfl (lv_at hl 0 rfl) ?_
  refine jC F hS (List.mem_cons_of_mem _ (List.mem_of_getElem? (i := 1) rfl)) dJ0_isLatin1_aae02_7 ?_
  refine lv_if_ne (tgt := 17) hx hb dJ0_isLatin1_aae02_10 (by decide) (fun h => absurd rfl h) (fun _ => ?_)
  refine lv_iconst (v := 1) hx hb dJ0_isLatin1_aae02_13 (by decide) ?_
  refine lv_goto (tgt := 18) hx hb dJ0_isLatin1_aae02_14 (by decide) ?_
  exact hret 18 H locs ls rfl dJ0_isLatin1_aae02_18 hS
theorem kJ_cod (l : Launch) (aK aV sz : Nat) : Met l yJ0_coder_7d493 wsJ0_coder_7d493 rmJ_0 (va_Pc [.ref aK] (jPc aK aV sz)) (qJ sz 0) 0 0 (va_A [] sz) := by
  refine jt (cc := cJ0_coder_7d493) (maxL := 1) (by decide) rfl (Nat.le_of_ble_eq_true rfl) ?_
  intro p e s m args below meth c A Q F hret H locs hS ls hl
  have F : Jx p s m args c cJ0_coder_7d493 1 wsJ0_coder_7d493 RJ0 aK aV A := F
  have hx := F.1.1
  have hb := F.1.2.1
  have hl : lv_has ls 1 [(0, .ref aK)] := hl
  refine jZ F hS (List.mem_cons_of_mem _ (List.mem_of_getElem? (i := 0) rfl)) dJ0_coder_7d493_0 ?_
  refine lv_if_eq (tgt := 13) hx hb dJ0_coder_7d493_3 (by decide) (fun h => absurd h (by decide)) (fun _ => ?_)
  refine lv_aload_n hx hb dJ0_coder_7d493_6 rfl (lv_at hl 0 rfl) ?_
  refine jC F hS (List.mem_cons_of_mem _ (List.mem_of_getElem? (i := 1) rfl)) dJ0_coder_7d493_7 ?_
  refine lv_goto (tgt := 14) hx hb dJ0_coder_7d493_10 (by decide) ?_
  exact hret 14 H locs ls rfl dJ0_coder_7d493_14 hS
theorem kJ_len (l : Launch) (aK aV sz : Nat) : Met l yJ0_length_8abf5 wsJ0_length_8abf5 rmJ_len (va_Pc [.ref aK] (jPc aK aV sz)) (qJ sz 6) 0 0 (va_A [] sz) := by
  refine jt (cc := cJ0_length_8abf5) (maxL := 1) (by decide) rfl (Nat.le_of_ble_eq_true rfl) ?_
  intro p e s m args below meth c A Q F hret H locs hS ls hl
  have F : Jx p s m args c cJ0_length_8abf5 1 wsJ0_length_8abf5 RJ0 aK aV A := F
  have hx := F.1.1
  have hb := F.1.2.1
  have hl : lv_has ls 1 [(0, .ref aK)] := hl
  refine lv_aload_n hx hb dJ0_length_8abf5_0 rfl (lv_at hl 0 rfl) ?_
  refine jB F hS (List.mem_cons_of_mem _ (List.mem_of_getElem? (i := 0) rfl)) dJ0_length_8abf5_1 ?_
  refine va_tlen hx hb (jT F) hS (v := 6) rfl dJ0_length_8abf5_4 ?_
  refine lv_aload_n hx hb dJ0_length_8abf5_5 rfl (lv_at hl 0 rfl) ?_
  refine jV (As := []) (rest := [.int 6]) F (kJ_cod l aK aV H.size) (cwV 0 F.1.2.2.2.2 gJ0_length_8abf5_J0_coder_7d493 rfl rfl rfl eVJ_cod ⟨Nat.le_of_ble_eq_true rfl, Nat.le_of_ble_eq_true rfl⟩) hS rfl hl.1 (Nat.le_of_ble_eq_true rfl) ⟨Nat.le_of_ble_eq_true rfl, Nat.le_of_ble_eq_true rfl⟩ rfl dJ0_length_8abf5_6 (fun H locs hS => ?_)
  refine lv_ishr hx hb dJ0_length_8abf5_9 ?_
  exact hret 10 H locs ls rfl dJ0_length_8abf5_10 hS
theorem kJ_can (l : Launch) (aK aV sz : Nat) (c0 : Int32) : Met l yJ1_canEncode_9a6ad wsJ1_canEncode_9a6ad rmJ_0 (va_Pc [.int c0] (jPc aK aV sz)) (qJ sz (if c0 < 0 then 0 else if 255 < c0 then 0 else 1)) 0 0 (va_A [] sz) := by
  refine jt (cc := cJ1_canEncode_9a6ad) (maxL := 1) (by decide) rfl (Nat.le_of_ble_eq_true rfl) ?_
  intro p e s m args below meth c A Q F hret H locs hS ls hl
  have F : Jx p s m args c cJ1_canEncode_9a6ad 1 wsJ1_canEncode_9a6ad RJ1 aK aV A := F
  have hx := F.1.1
  have hb := F.1.2.1
  have hl : lv_has ls 1 [(0, .int c0)] := hl
  refine lv_iload_n hx hb dJ1_canEncode_9a6ad_0 rfl (lv_at hl 0 rfl) ?_
  refine lv_if_lt (tgt := 15) hx hb dJ1_canEncode_9a6ad_1 (by decide) (fun h => ?_) (fun h => ?_)
  · rw [if_pos h] at hret
    refine lv_iconst (v := 0) hx hb dJ1_canEncode_9a6ad_15 (by decide) ?_
    exact hret 16 H locs ls rfl dJ1_canEncode_9a6ad_16 hS
  · rw [if_neg h] at hret
    refine lv_iload_n hx hb dJ1_canEncode_9a6ad_4 rfl (lv_at hl 0 rfl) ?_
    refine lv_sipush (v := 255) hx hb dJ1_canEncode_9a6ad_5 (by decide) ?_
    refine lv_icmp_gt (tgt := 15) hx hb dJ1_canEncode_9a6ad_8 (by decide) (fun h => ?_) (fun h => ?_)
    · rw [if_pos h] at hret
      refine lv_iconst (v := 0) hx hb dJ1_canEncode_9a6ad_15 (by decide) ?_
      exact hret 16 H locs ls rfl dJ1_canEncode_9a6ad_16 hS
    · rw [if_neg h] at hret
      refine lv_iconst (v := 1) hx hb dJ1_canEncode_9a6ad_11 (by decide) ?_
      refine lv_goto (tgt := 16) hx hb dJ1_canEncode_9a6ad_12 (by decide) ?_
      exact hret 16 H locs ls rfl dJ1_canEncode_9a6ad_16 hS
def ixc (b : Int32) : Nat → Nat → Int32
  | 0, _ => -1
  | d + 1, k => if kb.getD k 0 = b then nI k else ixc b d (k + 1)
theorem kJ_ixc (l : Launch) (aK aV sz : Nat) (c0 : Int32) : Met l yJ1_indexOfChar_4cfef wsJ1_indexOfChar_4cfef rmJ_0 (va_Pc [.ref aV, .int c0, .int 0, .int 6] (jPc aK aV sz)) (qJ sz (ixc c0.toInt8.toInt32 6 0)) 0 0 (va_A [] sz) := by
  refine jt (cc := cJ1_indexOfChar_4cfef) (maxL := 6) (by decide) rfl (Nat.le_of_ble_eq_true rfl) ?_
  intro p e s m args below meth c A Q F hret H locs hS ls hl
  have F : Jx p s m args c cJ1_indexOfChar_4cfef 6 wsJ1_indexOfChar_4cfef RJ1 aK aV A := F
  have hx := F.1.1
  have hb := F.1.2.1
  have hl : lv_has ls 6 [(0, .ref aV), (1, .int c0), (2, .int 0), (3, .int 6)] := hl
  generalize hr : ixc c0.toInt8.toInt32 6 0 = r at hret
  generalize hbb : c0.toInt8.toInt32 = b at hr
  have loop : ∀ (d k : Nat) (ls : Array Slot), k + d = 6 → ixc b d k = r → lv_has ls 6 [(5, .int (nI k)), (4, .int b), (0, .ref aV), (1, .int c0), (2, .int 0), (3, .int 6)] → W p l e rmJ_0 s m args below meth c H locs 0 0 Q (F0 m 7 ls []) := by
    intro d
    induction d with
    | zero =>
      intro k ls hk hr hl
      refine lv_iload hx hb dJ1_indexOfChar_4cfef_7 (lv_at hl 0 rfl) ?_
      refine lv_iload_n hx hb dJ1_indexOfChar_4cfef_9 rfl (lv_at hl 5 rfl) ?_
      refine lv_icmp_ge (tgt := 31) hx hb dJ1_indexOfChar_4cfef_10 (by decide) (fun _ => ?_) (fun h => absurd (show (6 : Int32) ≤ nI k from nI_le (a := 6) (by omega) (by omega)) h)
      have e1 : (-1 : Int32) = r := hr
      subst e1
      refine lv_iconst (v := -1) hx hb dJ1_indexOfChar_4cfef_31 (by decide) ?_
      exact hret 32 H locs ls rfl dJ1_indexOfChar_4cfef_32 hS
    | succ d ih =>
      intro k ls hk hr hl
      refine lv_iload hx hb dJ1_indexOfChar_4cfef_7 (lv_at hl 0 rfl) ?_
      refine lv_iload_n hx hb dJ1_indexOfChar_4cfef_9 rfl (lv_at hl 5 rfl) ?_
      refine lv_icmp_ge (tgt := 31) hx hb dJ1_indexOfChar_4cfef_10 (by decide) (fun h => absurd h (show ¬ (6 : Int32) ≤ nI k from nI_ge (b := 6) (by omega) (by omega))) (fun _ => ?_)
      refine lv_aload_n hx hb dJ1_indexOfChar_4cfef_13 rfl (lv_at hl 2 rfl) ?_
      refine lv_iload hx hb dJ1_indexOfChar_4cfef_14 (lv_at hl 0 rfl) ?_
      refine va_tb hx hb (jT F) hS (vp_in_nI (by omega) (by omega)) (v := .int (kb.getD k 0)) (by rw [nI_clamp (by omega)]) dJ1_indexOfChar_4cfef_16 ?_
      refine lv_iload hx hb dJ1_indexOfChar_4cfef_17 (lv_at hl 1 rfl) ?_
      have hr : (if kb.getD k 0 = b then nI k else ixc b d (k + 1)) = r := hr
      refine lv_icmp_ne (tgt := 25) hx hb dJ1_indexOfChar_4cfef_19 (by decide) (fun h => ?_) (fun h => ?_)
      · rw [if_neg h] at hr
        refine lv_iinc (v := nI (k + 1)) (lv' := [(5, .int (nI (k + 1))), (4, .int b), (0, .ref aV), (1, .int c0), (2, .int 0), (3, .int 6)]) hx hb dJ1_indexOfChar_4cfef_25 hl (k := 0) rfl (nI_1 k) (by decide) rfl (fun ls hl => ?_)
        refine lv_goto (tgt := 7) hx hb dJ1_indexOfChar_4cfef_28 (by decide) ?_
        exact ih (k + 1) ls (by omega) hr hl
      · rw [if_pos h] at hr
        subst hr
        refine lv_iload hx hb dJ1_indexOfChar_4cfef_22 (lv_at hl 0 rfl) ?_
        exact hret 24 H locs ls rfl dJ1_indexOfChar_4cfef_24 hS
  refine lv_iload_n hx hb dJ1_indexOfChar_4cfef_0 rfl (lv_at hl 1 rfl) ?_
  refine lv_i2b (v := b) hx hb dJ1_indexOfChar_4cfef_1 hbb ?_
  refine lv_istore (lv' := [(4, .int b), (0, .ref aV), (1, .int c0), (2, .int 0), (3, .int 6)]) hx hb dJ1_indexOfChar_4cfef_2 hl (by decide) rfl (fun ls hl => ?_)
  refine lv_iload_n hx hb dJ1_indexOfChar_4cfef_4 rfl (lv_at hl 3 rfl) ?_
  refine lv_istore (lv' := [(5, .int 0), (4, .int b), (0, .ref aV), (1, .int c0), (2, .int 0), (3, .int 6)]) hx hb dJ1_indexOfChar_4cfef_5 hl (by decide) rfl (fun ls hl => ?_)
  exact loop 6 0 ls rfl hr hl
def ixF (c0 : Int32) : Int32 := if (if c0 < 0 then (0 : Int32) else if 255 < c0 then 0 else 1) = 0 then -1 else ixc c0.toInt8.toInt32 6 0
theorem kJ_ix4 (l : Launch) (aK aV sz : Nat) (c0 : Int32) : Met l yJ1_indexOf_4cfef wsJ1_indexOf_4cfef rmJ_ix4 (va_Pc [.ref aV, .int c0, .int 0, .int 6] (jPc aK aV sz)) (qJ sz (ixF c0)) 0 0 (va_A [] sz) := by
  refine jt (cc := cJ1_indexOf_4cfef) (maxL := 4) (by decide) rfl (Nat.le_of_ble_eq_true rfl) ?_
  intro p e s m args below meth c A Q F hret H locs hS ls hl
  have F : Jx p s m args c cJ1_indexOf_4cfef 4 wsJ1_indexOf_4cfef RJ1 aK aV A := F
  have hx := F.1.1
  have hb := F.1.2.1
  have hown := F.1.2.2.2.1
  have hts := F.1.2.2.2.2
  have hl : lv_has ls 4 [(0, .ref aV), (1, .int c0), (2, .int 0), (3, .int 6)] := hl
  unfold ixF at hret
  refine lv_iload_n hx hb dJ1_indexOf_4cfef_0 rfl (lv_at hl 1 rfl) ?_
  refine jS (As := [.int c0]) (rest := []) F (kJ_can l aK aV H.size c0) (va_cwS 1 hts gJ1_indexOf_4cfef_J1_canEncode_9a6ad rfl rfl rfl eSJ_can ⟨Nat.le_of_ble_eq_true rfl, Nat.le_of_ble_eq_true rfl⟩) hS rfl hl.1 (Nat.le_of_ble_eq_true rfl) ⟨Nat.le_of_ble_eq_true rfl, Nat.le_of_ble_eq_true rfl⟩ rfl dJ1_indexOf_4cfef_1 (fun H locs hS => ?_)
  refine lv_if_ne (tgt := 9) hx hb dJ1_indexOf_4cfef_4 (by decide) (fun h => ?_) (fun h => ?_)
  · rw [if_neg h] at hret
    refine lv_iload_n hx hb dJ1_indexOf_4cfef_9 rfl (lv_at hl 2 rfl) ?_
    refine lv_iconst (v := 0) hx hb dJ1_indexOf_4cfef_10 (by decide) ?_
    refine va_mmax hx hb (F.1.2.2.1.trans hl.1.symm) hown (hts _ (List.mem_cons_of_mem _ (List.mem_of_getElem? (i := 0) rfl))) (hts _ (List.mem_cons_of_mem _ (List.mem_of_getElem? (i := 1) rfl))) (hts _ (List.mem_cons_of_mem _ (List.mem_of_getElem? (i := 2) rfl))) (hts _ (List.mem_cons_of_mem _ (List.mem_of_getElem? (i := 3) rfl))) (Nat.le_of_ble_eq_true rfl) (Nat.le_of_ble_eq_true rfl) (Nat.le_of_ble_eq_true rfl) (Nat.le_of_ble_eq_true rfl) dJ1_indexOf_4cfef_11 ?_
    refine lv_istore_n (lv' := [(2, .int 0), (0, .ref aV), (1, .int c0), (3, .int 6)]) hx hb dJ1_indexOf_4cfef_14 rfl hl (by decide) rfl (fun ls hl => ?_)
    refine lv_iload_n hx hb dJ1_indexOf_4cfef_15 rfl (lv_at hl 3 rfl) ?_
    refine lv_aload_n hx hb dJ1_indexOf_4cfef_16 rfl (lv_at hl 1 rfl) ?_
    refine va_tlen hx hb (jT F) hS (v := 6) rfl dJ1_indexOf_4cfef_17 ?_
    refine va_mmin hx hb (F.1.2.2.1.trans hl.1.symm) hown (hts _ (List.mem_cons_of_mem _ (List.mem_of_getElem? (i := 4) rfl))) (hts _ (List.mem_cons_of_mem _ (List.mem_of_getElem? (i := 5) rfl))) (hts _ (List.mem_cons_of_mem _ (List.mem_of_getElem? (i := 2) rfl))) (hts _ (List.mem_cons_of_mem _ (List.mem_of_getElem? (i := 6) rfl))) (Nat.le_of_ble_eq_true rfl) (Nat.le_of_ble_eq_true rfl) (Nat.le_of_ble_eq_true rfl) (Nat.le_of_ble_eq_true rfl) dJ1_indexOf_4cfef_18 ?_
    refine lv_istore_n (lv' := [(3, .int 6), (2, .int 0), (0, .ref aV), (1, .int c0)]) hx hb dJ1_indexOf_4cfef_21 rfl hl (by decide) rfl (fun ls hl => ?_)
    refine lv_iload_n hx hb dJ1_indexOf_4cfef_22 rfl (lv_at hl 1 rfl) ?_
    refine lv_iload_n hx hb dJ1_indexOf_4cfef_23 rfl (lv_at hl 0 rfl) ?_
    refine lv_icmp_lt (tgt := 29) hx hb dJ1_indexOf_4cfef_24 (by decide) (fun _ => ?_) (fun h => absurd (show (0 : Int32) < 6 by decide) h)
    refine lv_aload_n hx hb dJ1_indexOf_4cfef_29 rfl (lv_at hl 2 rfl) ?_
    refine lv_iload_n hx hb dJ1_indexOf_4cfef_30 rfl (lv_at hl 3 rfl) ?_
    refine lv_iload_n hx hb dJ1_indexOf_4cfef_31 rfl (lv_at hl 1 rfl) ?_
    refine lv_iload_n hx hb dJ1_indexOf_4cfef_32 rfl (lv_at hl 0 rfl) ?_
    refine jS (As := [.ref aV, .int c0, .int 0, .int 6]) (rest := []) F (kJ_ixc l aK aV H.size c0) (va_cwS 4 hts gJ1_indexOf_4cfef_J1_indexOfChar_4cfef rfl rfl rfl eSJ_ixc ⟨Nat.le_of_ble_eq_true rfl, Nat.le_of_ble_eq_true rfl⟩) hS rfl hl.1 (Nat.le_of_ble_eq_true rfl) ⟨Nat.le_of_ble_eq_true rfl, Nat.le_of_ble_eq_true rfl⟩ rfl dJ1_indexOf_4cfef_33 (fun H locs hS => ?_)
    exact hret 36 H locs ls rfl dJ1_indexOf_4cfef_36 hS
  · rw [if_pos h] at hret
    refine lv_iconst (v := -1) hx hb dJ1_indexOf_4cfef_7 (by decide) ?_
    exact hret 8 H locs ls rfl dJ1_indexOf_4cfef_8 hS
theorem kJ_ix2 (l : Launch) (aK aV sz : Nat) (c0 : Int32) : Met l yJ0_indexOf_7cf53 wsJ0_indexOf_7cf53 rmJ_ix2 (va_Pc [.ref aK, .int c0, .int 0] (jPc aK aV sz)) (qJ sz (ixF c0)) 0 0 (va_A [] sz) := by
  refine jt (cc := cJ0_indexOf_7cf53) (maxL := 3) (by decide) rfl (Nat.le_of_ble_eq_true rfl) ?_
  intro p e s m args below meth c A Q F hret H locs hS ls hl
  have F : Jx p s m args c cJ0_indexOf_7cf53 3 wsJ0_indexOf_7cf53 RJ0 aK aV A := F
  have hx := F.1.1
  have hb := F.1.2.1
  have hts := F.1.2.2.2.2
  have hl : lv_has ls 3 [(0, .ref aK), (1, .int c0), (2, .int 0)] := hl
  refine lv_aload_n hx hb dJ0_indexOf_7cf53_0 rfl (lv_at hl 0 rfl) ?_
  refine jV (As := []) (rest := []) F (kJ_isL l aK aV H.size) (cwV 0 hts gJ0_indexOf_7cf53_J0_isLatin1_aae02 rfl rfl rfl eVJ_isL ⟨Nat.le_of_ble_eq_true rfl, Nat.le_of_ble_eq_true rfl⟩) hS rfl hl.1 (Nat.le_of_ble_eq_true rfl) ⟨Nat.le_of_ble_eq_true rfl, Nat.le_of_ble_eq_true rfl⟩ rfl dJ0_indexOf_7cf53_1 (fun H locs hS => ?_)
  refine lv_if_eq (tgt := 23) hx hb dJ0_indexOf_7cf53_4 (by decide) (fun h => absurd h (by decide)) (fun _ => ?_)
  refine lv_aload_n hx hb dJ0_indexOf_7cf53_7 rfl (lv_at hl 0 rfl) ?_
  refine jB F hS (List.mem_cons_of_mem _ (List.mem_append_left _ (List.mem_of_getElem? (i := 0) rfl))) dJ0_indexOf_7cf53_8 ?_
  refine lv_iload_n hx hb dJ0_indexOf_7cf53_11 rfl (lv_at hl 1 rfl) ?_
  refine lv_iload_n hx hb dJ0_indexOf_7cf53_12 rfl (lv_at hl 2 rfl) ?_
  refine lv_aload_n hx hb dJ0_indexOf_7cf53_13 rfl (lv_at hl 0 rfl) ?_
  refine jV (As := []) (rest := [.int 0, .int c0, .ref aV]) F (kJ_len l aK aV H.size) (cwV 0 hts gJ0_indexOf_7cf53_J0_length_8abf5 rfl rfl rfl eVJ_len ⟨Nat.le_of_ble_eq_true rfl, Nat.le_of_ble_eq_true rfl⟩) hS rfl hl.1 (Nat.le_of_ble_eq_true rfl) ⟨Nat.le_of_ble_eq_true rfl, Nat.le_of_ble_eq_true rfl⟩ rfl dJ0_indexOf_7cf53_14 (fun H locs hS => ?_)
  refine jS (As := [.ref aV, .int c0, .int 0, .int 6]) (rest := []) F (kJ_ix4 l aK aV H.size c0) (va_cwS 4 hts gJ0_indexOf_7cf53_J1_indexOf_4cfef rfl rfl rfl eSJ_ix4 ⟨Nat.le_of_ble_eq_true rfl, Nat.le_of_ble_eq_true rfl⟩) hS rfl hl.1 (Nat.le_of_ble_eq_true rfl) ⟨Nat.le_of_ble_eq_true rfl, Nat.le_of_ble_eq_true rfl⟩ rfl dJ0_indexOf_7cf53_17 (fun H locs hS => ?_)
  refine lv_goto (tgt := 36) hx hb dJ0_indexOf_7cf53_20 (by decide) ?_
  exact hret 36 H locs ls rfl dJ0_indexOf_7cf53_36 hS
theorem kJ_ix1 (l : Launch) (aK aV sz : Nat) (c0 : Int32) : Met l yJ0_indexOf_0f7a4 wsJ0_indexOf_0f7a4 rmJ_ix1 (va_Pc [.ref aK, .int c0] (jPc aK aV sz)) (qJ sz (ixF c0)) 0 0 (va_A [] sz) := by
  refine jt (cc := cJ0_indexOf_0f7a4) (maxL := 2) (by decide) rfl (Nat.le_of_ble_eq_true rfl) ?_
  intro p e s m args below meth c A Q F hret H locs hS ls hl
  have F : Jx p s m args c cJ0_indexOf_0f7a4 2 wsJ0_indexOf_0f7a4 RJ0 aK aV A := F
  have hx := F.1.1
  have hb := F.1.2.1
  have hts := F.1.2.2.2.2
  have hl : lv_has ls 2 [(0, .ref aK), (1, .int c0)] := hl
  refine lv_aload_n hx hb dJ0_indexOf_0f7a4_0 rfl (lv_at hl 0 rfl) ?_
  refine lv_iload_n hx hb dJ0_indexOf_0f7a4_1 rfl (lv_at hl 1 rfl) ?_
  refine lv_iconst (v := 0) hx hb dJ0_indexOf_0f7a4_2 (by decide) ?_
  refine jV (As := [.int c0, .int 0]) (rest := []) F (kJ_ix2 l aK aV H.size c0) (cwV 2 hts gJ0_indexOf_0f7a4_J0_indexOf_7cf53 rfl rfl rfl eVJ_ix2 ⟨Nat.le_of_ble_eq_true rfl, Nat.le_of_ble_eq_true rfl⟩) hS rfl hl.1 (Nat.le_of_ble_eq_true rfl) ⟨Nat.le_of_ble_eq_true rfl, Nat.le_of_ble_eq_true rfl⟩ rfl dJ0_indexOf_0f7a4_3 (fun H locs hS => ?_)
  exact hret 6 H locs ls rfl dJ0_indexOf_0f7a4_6 hS
theorem ix_lo : ∀ n, n < 256 → ixF (nI n) = kdx (nI n) := by decide +kernel
theorem ix_kdx {n : Nat} (hn : n < 65536) : ixF (nI n) = kdx (nI n) := by
  by_cases h : n < 256
  · exact ix_lo n h
  · have e (k : Nat) (hk : k < 256) : ¬ nI n = nI k := fun q => by
      have := (nI_eq (show n < 2 ^ 31 by omega) (show k < 2 ^ 31 by omega)).mp q
      omega
    have h1 : (255 : Int32) < nI n := nI_lt (a := 255) (by omega) (by omega)
    have e1 : ixF (nI n) = -1 := by
      unfold ixF
      rw [if_neg (nI_pos (show n < 2 ^ 31 by omega)), if_pos h1, if_pos rfl]
    rw [e1]
    unfold kdx
    rw [if_neg (show ¬ nI n = 104 from e 104 (by decide)), if_neg (show ¬ nI n = 98 from e 98 (by decide)), if_neg (show ¬ nI n = 109 from e 109 (by decide)), if_neg (show ¬ nI n = 119 from e 119 (by decide)), if_neg (show ¬ nI n = 113 from e 113 (by decide)), if_neg (show ¬ nI n = 100 from e 100 (by decide))]
theorem c16 (x : Int32) : ∃ n, n < 65536 ∧ (x.toUInt32 % 65536).toInt32 = nI n := by
  refine ⟨x.toUInt32.toNat % 65536, Nat.mod_lt _ (by decide), ?_⟩
  have h : x.toUInt32 % 65536 = UInt32.ofNat (x.toUInt32.toNat % 65536) := by
    apply UInt32.toNat_inj.mp
    rw [UInt32.toNat_mod, UInt32.toNat_ofNat_of_lt' (Nat.lt_trans (Nat.mod_lt _ (by decide)) (by decide))]
    rfl
  rw [h]
  rfl
theorem kX4_kindOf (l : Launch) (D : va_G) (cI cJ : ClassId) (sz g : Nat) (p0 : Int32) (r : Int32) (hf : fX4_kindOf g p0 = some r) : Met l yX4_kindOf wsX4_kindOf rmX4_kindOf (va_Pc [.int p0] (sPc D (tyL cI cJ) [] sz)) (qI D (tyL cI cJ) [] sz [] r) 0 0 (va_A [] sz) := by
  have hr : kdx (p0.toUInt32 % 65536).toInt32 = r := Option.some.inj hf
  subst hr
  refine st_i (cc := cX4_kindOf) (maxL := 1) (by decide) rfl (Nat.le_of_ble_eq_true rfl) ?_
  intro p e s m args below meth c A Q F hret H locs hP hS ls hl
  have F : Cx p s m args c cX4_kindOf 1 wsX4_kindOf RX4 D (tyL cI cJ) A := F
  have hx := F.1.1
  have hb := F.1.2.1
  have hown := F.1.2.2.2.1
  have hts := F.1.2.2.2.2
  obtain ⟨aK, aV, t1, t2, t3⟩ := F.2.2.2.1
  have J : Jx p s m args c cX4_kindOf 1 wsX4_kindOf RX4 aK aV A := ⟨F.1, ⟨t2, t3⟩, F.2.2.2.2⟩
  have hl : lv_has ls 1 [(0, .int p0)] := hl
  obtain ⟨n, hn, en⟩ := c16 p0
  rw [en] at hret
  have hs1 : (Cond.stringRef RX4 298 "hbmwqd").before args s = true := by
    have h1 := t1.1
    simp only [Cond.before, Cond.holds, Cond.value, State.names, State.poolOf?, State.resolvedAt?] at h1 ⊢
    exact h1
  have hs2 : (Term.string RX4 298).eval args s none [] s = some (.ref aK) := by
    rw [Term.string_eval_of_vm (args := args) (show s.vm = s.vm from rfl)]
    exact t1.2
  have step : ∀ (k : W p l e rmX4_kindOf s m args below meth c H locs 0 0 Q (F0 m 3 ls [.ref aK])), W p l e rmX4_kindOf s m args below meth c H locs 0 0 Q (F0 m 0 ls []) := by
    intro k T hT X
    obtain ⟨t, a1, b1⟩ := k T hT X
    exact ⟨t, ldcwS X hx hown (text := "hbmwqd") (a := aK) hs1 hs2 (g := F0 m 0 ls []) rfl (by rw [hb]; exact dX4_kindOf_0) t a1, b1⟩
  refine step ?_
  refine lv_iload_n hx hb dX4_kindOf_3 rfl (lv_at hl 0 rfl) ?_
  refine lv_i2c (v := nI n) hx hb dX4_kindOf_4 en ?_
  refine jV (As := [.int (nI n)]) (rest := []) J (kJ_ix1 l aK aV H.size (nI n)) (cwV 1 hts gX4_kindOf_J0_indexOf_0f7a4 rfl rfl rfl eVJ_ix1 ⟨Nat.le_of_ble_eq_true rfl, Nat.le_of_ble_eq_true rfl⟩) hS rfl hl.1 (Nat.le_of_ble_eq_true rfl) ⟨Nat.le_of_ble_eq_true rfl, Nat.le_of_ble_eq_true rfl⟩ rfl dX4_kindOf_5 (fun H1 locs1 hS1 => ?_)
  rw [ix_kdx hn]
  have hP1 : WD D A [] H1 := ⟨fun k q h => by simp at h, fun i j x y h => by simp at h, fun k q h => by simp at h⟩
  exact hret 8 H1 locs1 ls rfl dX4_kindOf_8 hP1 hS1
