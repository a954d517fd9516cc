/-! ===== the law from its entry, and the claim; laid by mkstart.py ===== -/
set_option maxRecDepth 20000 in
theorem nwF_in : ∀ w ∈ nwF.map (fun q => Cond.fieldLinkNest q.1 q.2.1 q.2.2.1 q.2.2.2.1 q.2.2.2.2 RX4), w ∈ lw_tbl := mem_r [73, 93, 87, 97, 99, 75, 147, 150, 166, 95, 89, 134, 77, 79, 81, 84, 92, 86, 83, 91] (by rfl)
set_option maxRecDepth 20000 in
theorem nwM_in : ∀ w ∈ nwM.map (fun q => Cond.methodLinkNest q.1 q.2.1 q.2.2 RX4), w ∈ lw_tbl := mem_r [68, 128, 142, 161, 242, 424, 427, 494] (by rfl)
theorem iLX0 : ∀ w ∈ wsX00, w ∈ wsL_law := fun _ h => List.mem_append_left _ (List.mem_append_right _ h)
theorem iLX1 : ∀ w ∈ wsX10, w ∈ wsL_law := fun _ h => List.mem_append_left _ (List.mem_append_left _ (List.mem_append_right _ h))
theorem iLX2 : ∀ w ∈ wsX20, w ∈ wsL_law := fun _ h => List.mem_append_left _ (List.mem_append_left _ (List.mem_append_left _ (List.mem_append_right _ h)))
theorem iLX3 : ∀ w ∈ wsX30, w ∈ wsL_law := fun _ h => List.mem_append_left _ (List.mem_append_left _ (List.mem_append_left _ (List.mem_append_left _ (List.mem_append_right _ h))))
theorem iLX4 : ∀ w ∈ wsX40, w ∈ wsL_law := fun _ h => List.mem_append_left _ (List.mem_append_left _ (List.mem_append_left _ (List.mem_append_left _ (List.mem_append_left _ (List.mem_append_left _ (List.mem_append_right _ h))))))
theorem iLX5 : ∀ w ∈ wsX50, w ∈ wsL_law := fun _ h => List.mem_append_left _ (List.mem_append_left _ (List.mem_append_left _ (List.mem_append_left _ (List.mem_append_left _ (List.mem_append_right _ h)))))
/-! THE CLAIM OUT OF ONE WALK OF THE LAW'S BODY. Your part is whole_start (and what it stands on); all else here is the same for every law, but numbers. -/
def R_law : String := "NeedleToTheMissedLaw"
def lw_P (b : Addr) (xs : List Int32) (args : Array Value) (s : State) : Prop := args = #[.ref b] ∧ s.IntsAt b xs ∧ xs.length ≤ 2560 ∧ (Jvm.Cond.and given_1 narrow_1).before args s = true
def lw_Q (_ : Array Value) (s : State) (o : Outcome) (t : State) : Prop := o = .returned (some (.int 1)) ∧ Framed s o t [] 37 721
def lw_Z (below : List Frame) (a : Array Value) (s : State) : State → Prop := fun t => ∃ o, t.status = .running ∧ Ended t below o ∧ lw_Q a s o t
/-- the law's own end, with 1 on the stack, nothing written that was there before, its room as the claim has it -/
theorem lw_ret {p : Program} {l : Launch} {e : Env} {s : State} {m : MethodId} {below : List Frame} {meth : Method} {c : Code} {b : Nat} (hx : p.tables.exec = Jvm.exec) (hb : c.code = code) (hr : meth.sig.returnType = ret) (hlocks : meth.locks = false) {pc : Nat} {H : Heap} {ls : Array Slot} (hdg : decode code pc = .ok (.ireturn, 1)) : W p l e room_1 s m #[Value.ref b] below meth c H [] 37 721 (lw_Z below #[Value.ref b] s) (F0 m pc ls [.int 1]) := by
  intro T hT X
  obtain ⟨fs, hret, hrun, hended, hW, hframe⟩ := X.leave (v := some (.int 1)) (hlocks := hlocks) (fun h => by rw [hr] at h; cases h)
  have hmeth' : T.vm.method? m = some meth := X.method'
  refine ⟨T.setFrames fs, ?_, .returned (some (.int 1)), hrun, hended, rfl, ⟨_, rfl⟩, hW, hframe⟩
  jvm_step X.here [X.here.top, hx, hb, hdg, hmeth', hr, ret, narrow_b1]
  (try refine ⟨rfl, ?_⟩); (try refine ⟨rfl, ?_⟩)
  first | (intro acts; rw [hret _ acts rfl rfl rfl]) | rw [hret _ _ rfl rfl rfl]
  exact Steps.refl _
/-- what holds at the law's entry: the machine, the code, the tables' words (any of lw_tbl by 'hts w (by decide +kernel)'), the script of L ints xs at the cell b, what the Statement gives of the start (any of its parts by flat_of_before) -/
def lw_At (p : Program) (s : State) (m : MethodId) (meth : Method) (c : Code) (b L : Nat) (xs : Nat → Int32) : Prop :=
  p.tables.exec = Jvm.exec ∧ c.code = code ∧ meth.sig.returnType = ret ∧ c.maxLocals = 4 ∧ s.vm.findClass R_law = some m.cls ∧ (∀ w ∈ lw_tbl, w.before #[Value.ref b] s = true) ∧ va_X b L xs s s.heap ∧ b < s.heap.size ∧ meth.locks = false ∧ (Jvm.Cond.and given_1 narrow_1).before #[Value.ref b] s = true
theorem wf0 : WF (fun _ => 0) := ⟨Nat.zero_le _, Nat.zero_le _, Nat.zero_lt_succ _, fun i hi => absurd hi (Nat.not_lt_zero _), fun h hh => absurd hh (Nat.not_lt_zero _), fun _ _ => rfl⟩
theorem rv0 : RV (fun _ => 0) 0 0 0 0 0 (fun _ => 0) (fun _ => 0) (fun _ => 0) (fun _ => 0) (fun _ => 0) := ⟨rfl, rfl, rfl, rfl, rfl, fun i hi => absurd hi (Nat.not_lt_zero _), fun h hh => absurd hh (Nat.not_lt_zero _)⟩
set_option maxHeartbeats 4000000 in
set_option maxRecDepth 100000 in
theorem whole_start {p : Program} {e : Env} {s : State} {m : MethodId} {below : List Frame} {meth : Method} {c : Code} (l : Launch) (hflags : l.flags = flags0) {b L : Nat} {xs : Nat → Int32} (hL : L ≤ 2560) (C0 : lw_At p s m meth c b L xs) : W p l e room_1 s m #[Value.ref b] below meth c s.heap [] 0 0 (lw_Z below #[Value.ref b] s) (entryFrame m ([Value.ref b] : List Value).toArray 4) := by
  obtain ⟨hx, hb, hr, hml, hown, ht0, hX, hbl, hlocks, hgv⟩ := C0
  have hts : ∀ w ∈ wsL_law, w.before #[Value.ref b] s = true := fun w h => ht0 w (wsL_in w h)
  have hs := flat_of_before _ hgv
  have hA : ∀ q : Nat, q < s.heap.size → ¬ (fun q => s.heap.size ≤ q) q := fun q h => Nat.not_le.mpr h
  have hbA : ¬ (fun q => s.heap.size ≤ q) b := hA b hbl
  obtain ⟨c0, f0, k0⟩ := u_known hts iLX0 (hts _ (List.mem_of_getElem? (i := 27) (by rfl)))
  obtain ⟨c1, f1, k1⟩ := u_known hts iLX1 (hts _ (List.mem_of_getElem? (i := 23) (by rfl)))
  obtain ⟨c2, f2, k2⟩ := u_known hts iLX2 (hts _ (List.mem_of_getElem? (i := 19) (by rfl)))
  obtain ⟨c3, f3, k3⟩ := u_known hts iLX3 (hts _ (List.mem_of_getElem? (i := 13) (by rfl)))
  obtain ⟨c4, f4, k4⟩ := u_known hts iLX4 (hts _ (List.mem_of_getElem? (i := 1) (by rfl)))
  obtain ⟨c5, f5, k5⟩ := u_known hts iLX5 (hts _ (List.mem_of_getElem? (i := 4) (by rfl)))
  obtain ⟨cI, kI, cmI, i1, i2, i3⟩ := Cond.arrayClass_spec (args := #[Value.ref b]) (first := s) (o := none) (s := s) (idx := []) (hts _ (List.mem_of_getElem? (i := 30) (by rfl)))
  obtain ⟨cJ, kJ, cmJ, j1, j2, j3⟩ := Cond.arrayClass_spec (args := #[Value.ref b]) (first := s) (o := none) (s := s) (idx := []) (hts _ (List.mem_of_getElem? (i := 49) (by rfl)))
  have hK : va_K (fun c => [c0, c1, c2, c3, c4, c5].getD c c0, fun c => [f0, f1, f2, f3, f4, f5].getD c f0) vwCl (tyL cI cJ) s := by
    refine ⟨fun c q hq => ?_, fun k q hq => ?_⟩
    · have hc : c < 6 := (List.getElem?_eq_some_iff.mp hq).1
      rcases (show c = 0 ∨ c = 1 ∨ c = 2 ∨ c = 3 ∨ c = 4 ∨ c = 5 by omega) with rfl | rfl | rfl | rfl | rfl | rfl
      · cases hq; exact k0
      · cases hq; exact k1
      · cases hq; exact k2
      · cases hq; exact k3
      · cases hq; exact k4
      · cases hq; exact k5
    · have hc : k < 2 := (List.getElem?_eq_some_iff.mp hq).1
      rcases (show k = 0 ∨ k = 1 by omega) with rfl | rfl
      · cases hq; exact ⟨fun n z => ⟨fun k h => (by cases h), kI, i2, cmI, i3⟩, i1⟩
      · cases hq; exact ⟨fun n z => ⟨fun k h => (by cases h), kJ, j2, cmJ, j3⟩, j1⟩
  generalize hDD : ((fun c => [c0, c1, c2, c3, c4, c5].getD c c0, fun c => [f0, f1, f2, f3, f4, f5].getD c f0) : va_G) = D at hK
  have hN : NW s := ⟨fun q hq => va_Nw.of rfl (ht0 _ (nwF_in _ (List.mem_map_of_mem hq))), fun q hq => va_Nw.of rfl (ht0 _ (nwM_in _ (List.mem_map_of_mem hq)))⟩
  have hT : ST (fun q => s.heap.size ≤ q) s s.heap := by
    obtain ⟨aK, aV, s1, s2⟩ := vk_Sof (args := #[Value.ref b]) (s := s) (N := 1) (tm := fun _ => Term.string "NeedleToTheMissed" 298) (len := [6]) (byt := [[104, 98, 109, 119, 113, 100]]) (A := fun q => s.heap.size ≤ q)
      (fun i hi => by rw [show i = 0 by omega]; decide) (fun _ _ => hs _ (by decide +kernel)) (fun _ _ => hs _ (by decide +kernel)) (fun _ _ => hs _ (by decide +kernel))
      (fun i hi => by rw [show i = 0 by omega]; exact hs _ (by decide +kernel))
      (fun i hi j hj => by
        subst_vars
        obtain rfl : i = 0 := by omega
        have hj6 : j < 6 := hj
        rcases (show j = 0 ∨ j = 1 ∨ j = 2 ∨ j = 3 ∨ j = 4 ∨ j = 5 by omega) with rfl | rfl | rfl | rfl | rfl | rfl
        · exact hs _ (by decide +kernel)
        · exact hs _ (by decide +kernel)
        · exact hs _ (by decide +kernel)
        · exact hs _ (by decide +kernel)
        · exact hs _ (by decide +kernel)
        · exact hs _ (by decide +kernel))
      (fun i j hi hj h => absurd (by omega) h) hA
    refine ⟨aK 0, aV 0, vk_R.of (ht0 _ (List.mem_of_getElem? (i := 245) (by rfl))) (s2 0 (by omega)), ⟨fun i hi => ?_, fun i j hi hj _ => by omega⟩, va_Zof (ht0 _ (List.mem_of_getElem? (i := 259) (by rfl))) (hts _ (List.mem_of_getElem? (i := 120) (by rfl))) (va_eqt (hs _ (by decide +kernel))) hA⟩
    obtain rfl : i = 0 := by omega
    exact s1.1 0 (by omega)
  have F : Cx p s m #[Value.ref b] c code 4 wsL_law RL D (tyL cI cJ) (fun q => s.heap.size ≤ q) := ⟨⟨hx, hb, hml, hown, hts⟩, hK, hN, hT, fun q h => h⟩
  rw [show entryFrame m ([Value.ref b] : List Value).toArray 4 = F0 m 0 ((lg_sl [Value.ref b] ++ List.replicate (4 - (lg_sl [Value.ref b]).length) Slot.unset).toArray) [] from lg_entry_eq m [Value.ref b] 4]
  have hl := lv_entry [Value.ref b] (n := 4) (Nat.le_of_ble_eq_true rfl)
  generalize ((lg_sl [Value.ref b] ++ List.replicate (4 - (lg_sl [Value.ref b]).length) Slot.unset).toArray) = ls at hl ⊢
  have hl : lv_has ls 4 [(0, .ref b)] := hl
  have hP : WD D (fun q => s.heap.size ≤ q) [] s.heap := ⟨fun k q h => by simp at h, fun i j p q h => by simp at h, fun k q h => by simp at h⟩
  have hS : va_S (fun q => s.heap.size ≤ q) s.heap s.heap [] := va_S.rf
  refine va_new (ci := 4) (fs := [.null, .null, .null, .int 0, .null, .null, .null, .null, .int 0, .null, .null]) (C := RX4) (T := TX4) (N := 11) hx hb hts iLX4 tyX4 tyX4_ok hown (hts _ (List.mem_of_getElem? (i := 0) (by rfl))) (hts _ (List.mem_of_getElem? (i := 1) (by rfl))) (hts _ (List.mem_of_getElem? (i := 2) (by rfl))) F.2.1 hP.1 hP.2 hS F.2.2.2.2 rfl (fun j hj => by rcases (show j = 0 ∨ j = 1 ∨ j = 2 ∨ j = 3 ∨ j = 4 ∨ j = 5 ∨ j = 6 ∨ j = 7 ∨ j = 8 ∨ j = 9 ∨ j = 10 by omega) with rfl | rfl | rfl | rfl | rfl | rfl | rfl | rfl | rfl | rfl | rfl <;> rfl) (Nat.le_of_ble_eq_true rfl) (Nat.le_of_ble_eq_true rfl) dL_law_0 (fun b4 H hP1 hP2 hS => ?_)
  have hP : WD D (fun q => s.heap.size ≤ q) [(b4, .inr (4, [.null, .null, .null, .int 0, .null, .null, .null, .null, .int 0, .null, .null]))] H := ⟨hP1, hP2⟩
  refine lv_dup hx hb dL_law_3 rfl ?_
  refine cI_n (wc := [(b4, .inr (4, [.null, .null, .null, .int 0, .null, .null, .null, .null, .int 0, .null, .null]))]) (wr := []) (rest := [.ref b4]) F (kX4_init l D cI cJ H.size b4) (cwI 0 hts gL_law_X4_init rfl rfl rfl (hts _ (List.mem_of_getElem? (i := 2) (by rfl))) (hts _ (List.mem_of_getElem? (i := 6) (by rfl))) (hts _ (List.mem_of_getElem? (i := 7) (by rfl))) rfl eSX4_init ⟨Nat.le_of_ble_eq_true rfl, Nat.le_of_ble_eq_true rfl⟩) [0] [] hP hS rfl rfl rfl rfl (by decide) hl.1 (Nat.le_of_ble_eq_true rfl) ⟨Nat.le_of_ble_eq_true rfl, Nat.le_of_ble_eq_true rfl⟩ rfl dL_law_4 (fun q4 H locs hP hS => ?_)
  have hP : WD D (fun q => s.heap.size ≤ q) (wN4 cI cJ b4 q4) H := hP
  refine lv_astore_n (lv' := [(1, .ref b4), (0, .ref b)]) hx hb dL_law_7 rfl hl (by decide) rfl (fun ls hl => ?_)
  refine va_new (ci := 5) (fs := [.null, .null, .null, .null, .int 0, .null, .null, .null, .int 0, .int 0, .int 0, .null, .int 0]) (C := RX5) (T := TX5) (N := 13) hx hb hts iLX5 tyX5 tyX5_ok hown (hts _ (List.mem_of_getElem? (i := 3) (by rfl))) (hts _ (List.mem_of_getElem? (i := 4) (by rfl))) (hts _ (List.mem_of_getElem? (i := 5) (by rfl))) F.2.1 hP.1 hP.2 hS F.2.2.2.2 rfl (fun j hj => by rcases (show j = 0 ∨ j = 1 ∨ j = 2 ∨ j = 3 ∨ j = 4 ∨ j = 5 ∨ j = 6 ∨ j = 7 ∨ j = 8 ∨ j = 9 ∨ j = 10 ∨ j = 11 ∨ j = 12 by omega) with rfl | rfl | rfl | rfl | rfl | rfl | rfl | rfl | rfl | rfl | rfl | rfl | rfl <;> rfl) (Nat.le_of_ble_eq_true rfl) (Nat.le_of_ble_eq_true rfl) dL_law_8 (fun b5 H hP1 hP2 hS => ?_)
  have hP : WD D (fun q => s.heap.size ≤ q) (wN4 cI cJ b4 q4 ++ [(b5, .inr (5, [.null, .null, .null, .null, .int 0, .null, .null, .null, .int 0, .int 0, .int 0, .null, .int 0]))]) H := ⟨hP1, hP2⟩
  refine lv_dup hx hb dL_law_11 rfl ?_
  refine cI_n (wc := [(b5, .inr (5, [.null, .null, .null, .null, .int 0, .null, .null, .null, .int 0, .int 0, .int 0, .null, .int 0]))]) (wr := wN4 cI cJ b4 q4) (rest := [.ref b5]) F (kX5_init l D cI cJ H.size b5) (cwI 0 hts gL_law_X5_init rfl rfl rfl (hts _ (List.mem_of_getElem? (i := 5) (by rfl))) (hts _ (List.mem_of_getElem? (i := 55) (by rfl))) (hts _ (List.mem_of_getElem? (i := 56) (by rfl))) rfl eSX5_init ⟨Nat.le_of_ble_eq_true rfl, Nat.le_of_ble_eq_true rfl⟩) [28] [0, 1, 2, 3, 4, 5, 6, 7, 8, 9, 10, 11, 12, 13, 14, 15, 16, 17, 18, 19, 20, 21, 22, 23, 24, 25, 26, 27] hP hS rfl rfl rfl (by decide) (by decide) hl.1 (Nat.le_of_ble_eq_true rfl) ⟨Nat.le_of_ble_eq_true rfl, Nat.le_of_ble_eq_true rfl⟩ rfl dL_law_12 (fun q5 H locs hP hS => ?_)
  refine lv_astore_n (lv' := [(2, .ref b5), (1, .ref b4), (0, .ref b)]) hx hb dL_law_15 rfl hl (by decide) rfl (fun ls hl => ?_)
  refine lv_iconst (v := 0) hx hb dL_law_16 (by decide) ?_
  refine lv_istore_n (lv' := [(3, .int 0), (2, .ref b5), (1, .ref b4), (0, .ref b)]) hx hb dL_law_17 rfl hl (by decide) rfl (fun ls hl => ?_)
  obtain ⟨a, ha⟩ : ∃ a : Nat → Nat, a = fun k => [b4, q4 0, q4 1, q4 2, q4 3, q4 4, q4 5, q4 6, q4 7, q4 8, q4 9, q4 10, q4 11, q4 12, q4 13, q4 14, q4 15, q4 16, q4 17, q4 18, q4 19, q4 20, q4 21, q4 22, q4 23, q4 24, q4 25, q4 26, b5, q5 0, q5 1, q5 2, q5 3, q5 4, q5 5, q5 6, q5 7].getD k 0 := ⟨_, rfl⟩
  have hP : WD D (fun q => s.heap.size ≤ q) (wl cI cJ a 0 (nI 0) 0 0 0 0 0 0 0 (fun _ => 0) (fun _ => 0) (fun _ => 0) (fun _ => 0) (fun _ => 0) 0 0 0 0 0 0 0 (fun _ => 0) (fun _ => 0) (fun _ => 0) (fun _ => 0) (fun _ => 0) 0 0 0 0 0 0 0 (fun _ => 0) (fun _ => 0) (fun _ => 0) (fun _ => 0) (fun _ => 0) (nI 0) (fun _ => 0) 0 (fun _ => 0) (fun _ => 0) 0 (fun _ => 0) (fun _ => 0) (fun _ => 0) (rw1 (fun _ => 0)) (rw1 (fun _ => 0)) (rw1 (fun _ => 0)) (rw1 (fun _ => 0)) 0 (fun _ => 0) (fun _ => 0) (fun _ => 0) (nI 0) (nI 0) 0 (fun _ => 0) 0) H := by
    subst ha
    exact hP
  have a0 : a 0 = b4 := by subst ha; rfl
  have a28 : a 28 = b5 := by subst ha; rfl
  have hl : lv_has ls 4 [(3, .int (nI 0)), (0, .ref b), (1, .ref (a 0)), (2, .ref (a 28))] := by
    rw [a0, a28]
    refine ⟨hl.1, hl.2.1, fun q hq => hl.2.2 q ?_⟩
    simp only [List.mem_cons, List.not_mem_nil, or_false] at hq ⊢
    rcases hq with h | h | h | h
    · exact Or.inl h
    · exact Or.inr (Or.inr (Or.inr h))
    · exact Or.inr (Or.inr (Or.inl h))
    · exact Or.inr (Or.inl h)
  have hI : LI D (fun q => s.heap.size ≤ q) cI cJ a H := ⟨(fun _ => 0), (fun _ => 0), (fun _ => 0), (fun _ => 0), 0, 0, 0, 0, 0, 0, 0, 0, 0, 0, 0, 0, 0, 0, 0, 0, 0, 0, 0, 0, 0, 0, 0, 0, 0, 0, 0, (fun _ => 0), (fun _ => 0), (fun _ => 0), (fun _ => 0), (fun _ => 0), (fun _ => 0), (fun _ => 0), (fun _ => 0), (fun _ => 0), (fun _ => 0), (fun _ => 0), (fun _ => 0), (fun _ => 0), (fun _ => 0), (fun _ => 0), (fun _ => 0), (fun _ => 0), (fun _ => 0), (fun _ => 0), (fun _ => 0), 0, (fun _ => 0), (fun _ => 0), wf0, Nat.zero_le _, rv0, ⟨Nat.zero_le _, fun k hk => absurd hk (Nat.not_lt_zero _)⟩, Nat.zero_le _, wf0.z, wf0.z, wf0.z, Or.inl rfl, fun h => absurd h (by decide), hP⟩
  refine law_loop (g := 100000000000000000000) (Nat.le_refl _) F hL hX hbl hbA (fun H locs ls hS => ?_) (L + 1) 0 (by omega) (by omega) ls H locs hl hI hS
  refine lv_iconst (v := 1) hx hb dL_law_1196 (by decide) ?_
  exact va_forget hS.2.2 (lw_ret hx hb hr hlocks dL_law_1197)
set_option maxHeartbeats 4000000 in
theorem lw_walk (l : Launch) (hflags : l.flags = flags0) (b : Addr) (xs : List Int32) : MetFree l x (headSpec (Jvm.Cond.code x code maxLocals ret :: tables_1) room_1) (lw_P b xs) (fun _ _ _ _ _ => True) lw_Q := by
  refine MetFree.of_bodyS (code := code) (maxLocals := maxLocals) (ret := ret) (by decide) ?_ ?_
  · intro args s m h hn
    obtain ⟨meth, c, h1, h2, h3, h4, h5, h6, -, -⟩ := Cond.code_spec hn (atoms_spec (ws := Jvm.Cond.code x code maxLocals ret :: tables_1) h _ List.mem_cons_self)
    exact ⟨meth, c, h1, h2, h3, h4, h5, h6⟩
  · intro p e s m args below meth c s₁ B hml0 hP _
    obtain ⟨rfl, hx, hbd, hgv⟩ := hP
    obtain ⟨scr, harrAt, hlist, hof, hsmall⟩ := hx
    obtain ⟨hcb, hkn, -, -⟩ := State.arrayAt?_spec harrAt
    have hown : s.vm.findClass R_law = some m.cls := findClass_of_methodNamed B.named
    have hts0 : ∀ c ∈ (Jvm.Cond.code x code maxLocals ret :: tables_1), c.before #[Value.ref b] s = true := atoms_spec (ws := Jvm.Cond.code x code maxLocals ret :: tables_1) B.pre
    have hts : ∀ w ∈ lw_tbl, w.before #[Value.ref b] s = true := k2_hts_sels lw_privs (fun w hw => hts0 w (List.mem_cons_of_mem _ hw)) lw_privs_ok
    have hml : c.maxLocals = 4 := B.maxLocals_eq (hts0 _ List.mem_cons_self)
    have X₀ : Stand p l e room_1 s m #[Value.ref b] below meth c s₁ [] 0 0 := Stand.of_body B
    have hh0 : s₁.heap = s.heap := by rw [B.state]; rfl
    have hsz : scr.slots.size = xs.length := by rw [← Array.length_toList, hlist, List.length_map]
    have hval : ∀ j : Nat, j < xs.length → scr.slots[j]? = some (.int (xs.getD j 0)) := fun j hj => by
      rw [← Array.getElem?_toList, hlist]
      simp [hj]
    have hbl : b < s.heap.size := (Array.getElem?_eq_some_iff.mp hcb).1
    have hX : va_X b xs.length (fun j => xs.getD j 0) s s.heap := ⟨scr, hcb, hof, hkn, hsz, hval⟩
    have K : W p l e room_1 s m #[Value.ref b] below meth c s₁.heap [] 0 0 (lw_Z below #[Value.ref b] s) (entryFrame m ([Value.ref b] : List Value).toArray 4) := by
      rw [hh0]
      exact whole_start l hflags hbd ⟨B.exec, B.bytes, B.returns, hml, hown, hts, hX, hbl, B.notSynchronized, hgv⟩
    obtain ⟨t, a1, o, b1, b2, b3⟩ := K s₁ rfl X₀
    exact ⟨t, o, a1, b1, b2, b3⟩
theorem lw_pre_spec {args : Array Value} {s : State} (h : (Jvm.Cond.and given_1 narrow_1).before args s = true) (hr : rest_1_c.before args s = true) : ∃ (b : Addr) (xs : List Int32), lw_P b xs args s := by
  have hs := flat_of_before _ h
  have hq := flat_of_before _ hr
  have hc : (Cond.count 1).before args s = true := hs _ (by decide +kernel)
  have harr : (Cond.arrayOf (.arg 0) .int).before args s = true := hs _ (by decide +kernel)
  have hle : (Cond.le (.length (.arg 0)) (.int 2560)).before args s = true := hs _ (by decide +kernel)
  have hlen : (Cond.isInt (.length (.arg 0))).before args s = true := hq _ (by decide +kernel)
  have hall : (Cond.all (.arg 0) (.isInt (.elem (.arg 0) (.index 0)))).before args s = true := hq _ (by decide +kernel)
  obtain ⟨b, xs, hb, hx⟩ := State.ints_of_pre rfl harr hlen hall
  have hsm : xs.length < 2 ^ 31 := hx.choose_spec.2.2.2
  have hev : (Term.length (.arg 0)).eval args s none [] s = some (.int xs.length.toInt32) := hx.length_eval hb
  have hv := Cond.le_ints hev (show (Term.int 2560).eval args s none [] s = some (.int 2560) from rfl)
  have hd : xs.length.toInt32 ≤ 2560 := by
    simpa [Cond.before, Cond.holds, hv] using hle
  have hN : xs.length ≤ 2560 := (Int32.ofNat_le_ofNat hsm (by decide)).mp (show Int32.ofNat xs.length ≤ Int32.ofNat 2560 from hd)
  exact ⟨b, xs, Cond.one_arg hc (show args[0]? = some (.ref b) from hb), hx, hN, h⟩
theorem lw_comes (l : Launch) (hflags : l.flags = flags0) : Comes l x (Jvm.Cond.code x code maxLocals ret :: tables_1) room_1 (fun tb e args s => Calls_1 tb e args s ∧ rest_1 tb e args s ∧ Pre_1 tb e args s)
    (fun _ _ args s o t => lw_Q args s o t) := by
  intro p e ha hc hk s m args below hf hfit hheap happ hpre
  obtain ⟨b, xs, hP⟩ := lw_pre_spec hpre.2.2 hpre.2.1
  obtain ⟨k, o, h1, h2, h3, hQ⟩ := lw_walk l hflags b xs p e ha hc hk s m args below hf ((Spec.applies_iff_loose hf).mp happ).1 hP trivial
  exact ⟨k, o, h1, h2, h3, hQ⟩
theorem lw_frame {s t : State} {o : Outcome} {args : Array Value} (h : Framed s o t [] 37 721) :
    Framed s o t (fieldLocs frame_1_writes args s ++ arrayLocs frame_1_arrays args s ++ staticLocs frame_1_statics s) 37 721 := h
theorem lw_limb (L : Cond) (hL : ∀ (args : Array Value) (s t : State), L.after args s (.returned (some (.int 1))) t = true) :
    ArmFor flags0 classFile x code maxLocals ret World_1 tables_1 room_1 Calls_1 rest_1 Pre_1
      (fun tb e a s o t => postC L tb e a s o t ∧ Framed s o t (fieldLocs frame_1_writes a s ++ arrayLocs frame_1_arrays a s ++ staticLocs frame_1_statics s) 37 721) := by
  intro l hflags _ _ p e ha hc hk s m args below hf hfit hheap happ hpre
  obtain ⟨k, o, h1, h2, h3, rfl, hF⟩ := lw_comes l hflags p e ha hc hk s m args below hf hfit hheap happ hpre
  exact ⟨k, _, h1, h2, h3, hL args s _, lw_frame hF⟩
theorem i_vc : Claimed_1_1 ∧ Claimed_1_2 := ⟨lw_limb limb_1_1 (fun args s t => by simp [limb_1_1, Cond.after, Cond.holds, Cond.value]), lw_limb limb_1_2 (fun args s t => Cond.after_iff.mpr (by
  first | (rw [show limb_1_2 = Cond.eq .result (.int 1) from rfl, Cond.eq_ints (x := 1) (y := 1) rfl rfl]; simp; done) | (simp [limb_1_2, Cond.value, Term.eval]; done)))⟩
