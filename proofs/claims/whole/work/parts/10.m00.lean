theorem eSX0_draw : yX0_draw.cls ≠ "java/lang/invoke/MethodHandle" ∧ yX0_draw.cls ≠ "java/lang/invoke/VarHandle" ∧ (parseMethodDescriptor yX0_draw.desc).map (fun d => d.parameters.length) = some 1 := by decide +kernel
theorem eVX0_draw : yX0_draw.cls = RX0 ∧ yX0_draw.cls ≠ "java/lang/invoke/MethodHandle" ∧ yX0_draw.cls ≠ "java/lang/invoke/VarHandle" ∧ (parseMethodDescriptor yX0_draw.desc).map (fun d => d.parameters.length) = some 1 := ⟨rfl, eSX0_draw⟩
abbrev rmX0_draw : Room := { frames := 0, cells := 0, slots := 0, locals := 0 }
def fX0_draw (g : Nat) (p0 : Int32) (z_seed : Int32) : Option (Int32 × Int32) := if p0 ≤ 0 then (some (0, (z_seed * 1664525) + 1013904223)) else (gd (¬ p0 = 0) (some (((((z_seed * 1664525) + 1013904223) &&& 2147483647) / 256) - ((((z_seed * 1664525) + 1013904223) &&& 2147483647) / 256) / p0 * p0, (z_seed * 1664525) + 1013904223)))
set_option maxHeartbeats 4000000 in
set_option maxRecDepth 100000 in
theorem kX0_draw (l : Launch) (D : va_G) (cI cJ : ClassId) (sz g : Nat) (a_z : Nat) (z_seed : Int32) (p0 : Int32) (r : Int32) (n_z_seed : Int32) (hf : fX0_draw g p0 z_seed = some (r, n_z_seed)) : Met l yX0_draw wsX0_draw rmX0_draw (va_Pc [.ref a_z, .int p0] (sPc D (tyL cI cJ) [(a_z, .inr (0, [.int z_seed]))] sz)) (qI D (tyL cI cJ) [(a_z, .inr (0, [.int z_seed]))] sz [(a_z, .inr (0, [.int n_z_seed]))] r) 0 0 (va_A [(a_z, .inr (0, [.int z_seed]))] sz) := by
  refine st_i (cc := cX0_draw) (maxL := 2) (by decide) rfl (Nat.le_of_ble_eq_true rfl) ?_
  intro p e s m args below meth c A Q F hret0 H locs hP hS ls hl
  have F : Cx p s m args c cX0_draw 2 wsX0_draw RX0 D (tyL cI cJ) A := F
  have hx := F.1.1
  have hb := F.1.2.1
  have hown := F.1.2.2.2.1
  have hts := F.1.2.2.2.2
  have iX0 : ∀ w ∈ wsX00, w ∈ wsX0_draw := fun w h => (List.mem_cons_of_mem _ (List.mem_append_right _ h))
  have hret : ∀ (pc : Nat) (H : Heap) (locs : List Loc) (ls : Array Slot) (r' : Int32) (m_z_seed : Int32), some (r', m_z_seed) = some (r, n_z_seed) → narrow .int (.int r') = .int r' → decode cX0_draw pc = .ok (.ireturn, 1) → WD D A [(a_z, .inr (0, [.int m_z_seed]))] H → va_S A s.heap H locs → W p l e rmX0_draw s m args below meth c H locs 0 0 Q (F0 m pc ls [.int r']) := by
    intro pc H locs ls r' m_z_seed h hn hd hP hS
    cases h
    exact hret0 pc H locs ls hn hd hP hS
  have hl : lv_has ls 2 [(0, .ref a_z), (1, .int p0)] := hl
  have h := hf
  unfold fX0_draw at h
  refine lv_aload_n hx hb dX0_draw_0 rfl (lv_at hl 0 rfl) ?_
  refine lv_aload_n hx hb dX0_draw_1 rfl (lv_at hl 0 rfl) ?_
  refine gt_X0_9 F iX0 (List.mem_cons_of_mem _ (List.mem_append_left _ (List.mem_of_getElem? (i := 0) rfl))) hP 0 rfl dX0_draw_2 ?_
  refine lv_ldc (v := 1664525) hx hb hown (hts _ (List.mem_cons_of_mem _ (List.mem_append_left _ (List.mem_of_getElem? (i := 1) rfl)))) dX0_draw_5 ?_
  refine lv_imul hx hb dX0_draw_7 ?_
  refine lv_ldc (v := 1013904223) hx hb hown (hts _ (List.mem_cons_of_mem _ (List.mem_append_left _ (List.mem_of_getElem? (i := 2) rfl)))) dX0_draw_8 ?_
  refine lv_iadd hx hb dX0_draw_10 ?_
  refine pt_X0_9 F iX0 (List.mem_cons_of_mem _ (List.mem_append_left _ (List.mem_of_getElem? (i := 0) rfl))) hP hS 0 rfl dX0_draw_11 (fun H locs hP hS => ?_)
  have hP : WD D A [(a_z, .inr (0, [.int ((z_seed * 1664525) + 1013904223)]))] H := hP
  refine lv_iload_n hx hb dX0_draw_14 rfl (lv_at hl 1 rfl) ?_
  refine lv_if_le (tgt := 34) hx hb dX0_draw_15 (by decide) (fun hc3 => ?_) (fun hc3 => ?_)
  · have h := it_p hc3 h
    refine lv_iconst (v := 0) hx hb dX0_draw_34 (by decide) ?_
    exact hret 35 H locs ls 0 ((z_seed * 1664525) + 1013904223) h rfl dX0_draw_35 hP hS
  · have h := it_n hc3 h
    refine lv_aload_n hx hb dX0_draw_18 rfl (lv_at hl 0 rfl) ?_
    refine gt_X0_9 F iX0 (List.mem_cons_of_mem _ (List.mem_append_left _ (List.mem_of_getElem? (i := 0) rfl))) hP 0 rfl dX0_draw_19 ?_
    refine lv_ldc (v := 2147483647) hx hb hown (hts _ (List.mem_cons_of_mem _ (List.mem_append_left _ (List.mem_of_getElem? (i := 3) rfl)))) dX0_draw_22 ?_
    refine lv_iand hx hb dX0_draw_24 ?_
    refine lv_sipush (v := 256) hx hb dX0_draw_25 (by decide) ?_
    refine lv_idiv hx hb dX0_draw_28 (by decide) ?_
    refine lv_iload_n hx hb dX0_draw_29 rfl (lv_at hl 1 rfl) ?_
    obtain ⟨hg4, h⟩ := gd_e h
    refine lv_irem hx hb dX0_draw_30 hg4 ?_
    refine lv_goto (tgt := 35) hx hb dX0_draw_31 (by decide) ?_
    exact hret 35 H locs ls (((((z_seed * 1664525) + 1013904223) &&& 2147483647) / 256) - ((((z_seed * 1664525) + 1013904223) &&& 2147483647) / 256) / p0 * p0) ((z_seed * 1664525) + 1013904223) h rfl dX0_draw_35 hP hS
theorem eSX0_startAnew : yX0_startAnew.cls ≠ "java/lang/invoke/MethodHandle" ∧ yX0_startAnew.cls ≠ "java/lang/invoke/VarHandle" ∧ (parseMethodDescriptor yX0_startAnew.desc).map (fun d => d.parameters.length) = some 1 := by decide +kernel
theorem eVX0_startAnew : yX0_startAnew.cls = RX0 ∧ yX0_startAnew.cls ≠ "java/lang/invoke/MethodHandle" ∧ yX0_startAnew.cls ≠ "java/lang/invoke/VarHandle" ∧ (parseMethodDescriptor yX0_startAnew.desc).map (fun d => d.parameters.length) = some 1 := ⟨rfl, eSX0_startAnew⟩
abbrev rmX0_startAnew : Room := { frames := 1, cells := 0, slots := 0, locals := 21 }
def fX0_startAnew_L12_b (g : Nat) (v0_hands : Int32) (self : Int32 → Int32 → (Nat → Int32) → Option (Int32 × (Nat → Int32))) (x2_L12 : Int32) (z_seed_L12 : Int32) (v0_seas_L12 : Nat → Int32) : Option (Int32 × (Nat → Int32)) := if v0_hands ≤ x2_L12 then (some (z_seed_L12, v0_seas_L12)) else (bd2 (fX0_draw g 40 z_seed_L12) fun r10 z_seed_11 => (gd (inB x2_L12 7) (self (x2_L12 + 1) z_seed_11 (upd v0_seas_L12 x2_L12.toNatClampNeg r10))))
def fX0_startAnew_L12 (g : Nat) (v0_hands : Int32) (n : Nat) : Int32 → Int32 → (Nat → Int32) → Option (Int32 × (Nat → Int32)) := lp (fX0_startAnew_L12_b g v0_hands) (fun _ _ _ => none) n
def fX0_startAnew (g : Nat) (z_seed : Int32) (v0_hands : Int32) (v0_seas : Nat → Int32) : Option (Int32 × Int32 × (Nat → Int32)) := bd2 (fX0_draw g 64 z_seed) fun r6 z_seed_7 => (bd2 (fX0_startAnew_L12 g v0_hands g 0 z_seed_7 v0_seas) fun t14 t15 => (some (t14, r6, t15)))
set_option maxHeartbeats 4000000 in
set_option maxRecDepth 100000 in
theorem kX0_startAnew (l : Launch) (D : va_G) (cI cJ : ClassId) (sz g : Nat) (a_z a_v0 a_v0_cells a_v0_kinds a_v0_figures a_v0_longings a_v0_seas : Nat) (z_seed : Int32) (v0_places : Int32) (v0_hands : Int32) (v0_aboard : Int32) (v0_ship : Int32) (v0_day : Int32) (v0_rows : Int32) (v0_columns : Int32) (v0_seas : Nat → Int32) (n_z_seed : Int32) (n_v0_ship : Int32) (n_v0_seas : Nat → Int32) (hf : fX0_startAnew g z_seed v0_hands v0_seas = some (n_z_seed, n_v0_ship, n_v0_seas)) : Met l yX0_startAnew wsX0_startAnew rmX0_startAnew (va_Pc [.ref a_z, .ref a_v0] (sPc D (tyL cI cJ) [(a_z, .inr (0, [.int z_seed])), (a_v0, .inr (3, [.ref a_v0_cells, .int v0_places, .ref a_v0_kinds, .ref a_v0_figures, .ref a_v0_longings, .ref a_v0_seas, .int v0_hands, .int v0_aboard, .int v0_ship, .int v0_day, .int v0_rows, .int v0_columns])), (a_v0_seas, .inl (cI, 7, .inl v0_seas))] sz)) (qV D (tyL cI cJ) [(a_z, .inr (0, [.int z_seed])), (a_v0, .inr (3, [.ref a_v0_cells, .int v0_places, .ref a_v0_kinds, .ref a_v0_figures, .ref a_v0_longings, .ref a_v0_seas, .int v0_hands, .int v0_aboard, .int v0_ship, .int v0_day, .int v0_rows, .int v0_columns])), (a_v0_seas, .inl (cI, 7, .inl v0_seas))] sz [(a_z, .inr (0, [.int n_z_seed])), (a_v0, .inr (3, [.ref a_v0_cells, .int v0_places, .ref a_v0_kinds, .ref a_v0_figures, .ref a_v0_longings, .ref a_v0_seas, .int v0_hands, .int v0_aboard, .int n_v0_ship, .int v0_day, .int v0_rows, .int v0_columns])), (a_v0_seas, .inl (cI, 7, .inl n_v0_seas))]) 0 0 (va_A [(a_z, .inr (0, [.int z_seed])), (a_v0, .inr (3, [.ref a_v0_cells, .int v0_places, .ref a_v0_kinds, .ref a_v0_figures, .ref a_v0_longings, .ref a_v0_seas, .int v0_hands, .int v0_aboard, .int v0_ship, .int v0_day, .int v0_rows, .int v0_columns])), (a_v0_seas, .inl (cI, 7, .inl v0_seas))] sz) := by
  refine st_v (cc := cX0_startAnew) (maxL := 3) (by decide) rfl (Nat.le_of_ble_eq_true rfl) ?_
  intro p e s m args below meth c A Q F hret0 H locs hP hS ls hl
  have F : Cx p s m args c cX0_startAnew 3 wsX0_startAnew RX0 D (tyL cI cJ) A := F
  have hx := F.1.1
  have hb := F.1.2.1
  have hown := F.1.2.2.2.1
  have hts := F.1.2.2.2.2
  have iX3 : ∀ w ∈ wsX30, w ∈ wsX0_startAnew := fun w h => (List.mem_cons_of_mem _ (List.mem_append_left _ (List.mem_append_right _ h)))
  have hret : ∀ (pc : Nat) (H : Heap) (locs : List Loc) (ls : Array Slot) (m_z_seed : Int32) (m_v0_ship : Int32) (m_v0_seas : Nat → Int32), some (m_z_seed, m_v0_ship, m_v0_seas) = some (n_z_seed, n_v0_ship, n_v0_seas) → decode cX0_startAnew pc = .ok (.return_, 1) → WD D A [(a_z, .inr (0, [.int m_z_seed])), (a_v0, .inr (3, [.ref a_v0_cells, .int v0_places, .ref a_v0_kinds, .ref a_v0_figures, .ref a_v0_longings, .ref a_v0_seas, .int v0_hands, .int v0_aboard, .int m_v0_ship, .int v0_day, .int v0_rows, .int v0_columns])), (a_v0_seas, .inl (cI, 7, .inl m_v0_seas))] H → va_S A s.heap H locs → W p l e rmX0_startAnew s m args below meth c H locs 0 0 Q (F0 m pc ls []) := by
    intro pc H locs ls m_z_seed m_v0_ship m_v0_seas h hd hP hS
    cases h
    exact hret0 pc H locs ls hd hP hS
  have L12 : ∀ (v0_ship_L12 : Int32) (n : Nat) (x2_L12 : Int32) (z_seed_L12 : Int32) (v0_seas_L12 : Nat → Int32) (tt0 : Int32) (tt1 : Nat → Int32) (H : Heap) (locs : List Loc) (ls : Array Slot), fX0_startAnew_L12 g v0_hands n x2_L12 z_seed_L12 v0_seas_L12 = some (tt0, tt1) → WD D A [(a_z, .inr (0, [.int z_seed_L12])), (a_v0, .inr (3, [.ref a_v0_cells, .int v0_places, .ref a_v0_kinds, .ref a_v0_figures, .ref a_v0_longings, .ref a_v0_seas, .int v0_hands, .int v0_aboard, .int v0_ship_L12, .int v0_day, .int v0_rows, .int v0_columns])), (a_v0_seas, .inl (cI, 7, .inl v0_seas_L12))] H → va_S A s.heap H locs → lv_has ls 3 [(0, .ref a_z), (1, .ref a_v0), (2, .int x2_L12)] → (∀ (H : Heap) (locs : List Loc) (ls : Array Slot), WD D A [(a_z, .inr (0, [.int tt0])), (a_v0, .inr (3, [.ref a_v0_cells, .int v0_places, .ref a_v0_kinds, .ref a_v0_figures, .ref a_v0_longings, .ref a_v0_seas, .int v0_hands, .int v0_aboard, .int v0_ship_L12, .int v0_day, .int v0_rows, .int v0_columns])), (a_v0_seas, .inl (cI, 7, .inl tt1))] H → va_S A s.heap H locs → lv_has ls 3 [] → W p l e rmX0_startAnew s m args below meth c H locs 0 0 Q (F0 m 38 ls [])) → W p l e rmX0_startAnew s m args below meth c H locs 0 0 Q (F0 m 12 ls []) := by
    intro v0_ship_L12 n
    induction n with
    | zero =>
      intro x2_L12 z_seed_L12 v0_seas_L12 tt0 tt1 H locs ls h
      exact (no_some h).elim
    | succ n ih =>
      intro x2_L12 z_seed_L12 v0_seas_L12 tt0 tt1 H locs ls h hP hS hl kE
      have h : fX0_startAnew_L12_b g v0_hands (fX0_startAnew_L12 g v0_hands n) x2_L12 z_seed_L12 v0_seas_L12 = some (tt0, tt1) := h
      unfold fX0_startAnew_L12_b at h
      refine lv_iload_n hx hb dX0_startAnew_12 rfl (lv_at hl 2 rfl) ?_
      refine lv_aload_n hx hb dX0_startAnew_13 rfl (lv_at hl 1 rfl) ?_
      refine gt_X0_27 F iX3 (F.2.2.1.f 17 rfl) hP 1 rfl dX0_startAnew_14 ?_
      refine lv_icmp_ge (tgt := 38) hx hb dX0_startAnew_17 (by decide) (fun hc9 => ?_) (fun hc9 => ?_)
      · have h := it_p hc9 h
        cases h
        exact kE H locs ls hP hS (lv_sub hl [] rfl)
      · have h := it_n hc9 h
        refine lv_aload_n hx hb dX0_startAnew_20 rfl (lv_at hl 1 rfl) ?_
        refine gt_X0_30 F iX3 (F.2.2.1.f 18 rfl) hP 1 rfl dX0_startAnew_21 ?_
        refine lv_iload_n hx hb dX0_startAnew_24 rfl (lv_at hl 2 rfl) ?_
        refine lv_aload_n hx hb dX0_startAnew_25 rfl (lv_at hl 0 rfl) ?_
        refine lv_bipush (v := 40) hx hb dX0_startAnew_26 (by decide) ?_
        obtain ⟨r10, z_seed_11, hk12, h⟩ := bd2_e h
        refine cV_i (rest := [.int x2_L12, .ref a_v0_seas]) F (kX0_draw l D cI cJ H.size g a_z z_seed_L12 40 r10 z_seed_11 hk12) (cwV 1 hts gX0_startAnew_X0_draw rfl rfl rfl eVX0_draw ⟨Nat.le_of_ble_eq_true rfl, Nat.le_of_ble_eq_true rfl⟩) [0] hP hS (by decide) rfl rfl 0 rfl rfl rfl hl.1 (Nat.le_of_ble_eq_true rfl) ⟨Nat.le_refl _, Nat.le_refl _⟩ rfl dX0_startAnew_28 (fun H locs hP hS => ?_)
        have hP : WD D A [(a_z, .inr (0, [.int z_seed_11])), (a_v0, .inr (3, [.ref a_v0_cells, .int v0_places, .ref a_v0_kinds, .ref a_v0_figures, .ref a_v0_longings, .ref a_v0_seas, .int v0_hands, .int v0_aboard, .int v0_ship_L12, .int v0_day, .int v0_rows, .int v0_columns])), (a_v0_seas, .inl (cI, 7, .inl v0_seas_L12))] H := hP
        obtain ⟨hg13, h⟩ := gd_e h
        refine r_is F hP hS 2 rfl rfl hg13 dX0_startAnew_31 (fun H locs hP hS => ?_)
        have hP : WD D A [(a_z, .inr (0, [.int z_seed_11])), (a_v0, .inr (3, [.ref a_v0_cells, .int v0_places, .ref a_v0_kinds, .ref a_v0_figures, .ref a_v0_longings, .ref a_v0_seas, .int v0_hands, .int v0_aboard, .int v0_ship_L12, .int v0_day, .int v0_rows, .int v0_columns])), (a_v0_seas, .inl (cI, 7, .inl (upd v0_seas_L12 x2_L12.toNatClampNeg r10)))] H := hP
        refine lv_iinc (v := x2_L12 + 1) (lv' := [(2, .int (x2_L12 + 1)), (0, .ref a_z), (1, .ref a_v0)]) hx hb dX0_startAnew_32 hl (k := 2) rfl rfl (by decide) rfl (fun ls hl => ?_)
        refine lv_goto (tgt := 12) hx hb dX0_startAnew_35 (by decide) ?_
        exact ih (x2_L12 + 1) z_seed_11 (upd v0_seas_L12 x2_L12.toNatClampNeg r10) tt0 tt1 H locs ls h hP hS (lv_sub hl [1, 2, 0] rfl) kE
  have hl : lv_has ls 3 [(0, .ref a_z), (1, .ref a_v0)] := hl
  have h := hf
  unfold fX0_startAnew at h
  refine lv_aload_n hx hb dX0_startAnew_0 rfl (lv_at hl 1 rfl) ?_
  refine lv_aload_n hx hb dX0_startAnew_1 rfl (lv_at hl 0 rfl) ?_
  refine lv_bipush (v := 64) hx hb dX0_startAnew_2 (by decide) ?_
  obtain ⟨r6, z_seed_7, hk8, h⟩ := bd2_e h
  refine cV_i (rest := [.ref a_v0]) F (kX0_draw l D cI cJ H.size g a_z z_seed 64 r6 z_seed_7 hk8) (cwV 1 hts gX0_startAnew_X0_draw rfl rfl rfl eVX0_draw ⟨Nat.le_of_ble_eq_true rfl, Nat.le_of_ble_eq_true rfl⟩) [0] hP hS (by decide) rfl rfl 0 rfl rfl rfl hl.1 (Nat.le_of_ble_eq_true rfl) ⟨Nat.le_refl _, Nat.le_refl _⟩ rfl dX0_startAnew_4 (fun H locs hP hS => ?_)
  have hP : WD D A [(a_z, .inr (0, [.int z_seed_7])), (a_v0, .inr (3, [.ref a_v0_cells, .int v0_places, .ref a_v0_kinds, .ref a_v0_figures, .ref a_v0_longings, .ref a_v0_seas, .int v0_hands, .int v0_aboard, .int v0_ship, .int v0_day, .int v0_rows, .int v0_columns])), (a_v0_seas, .inl (cI, 7, .inl v0_seas))] H := hP
  refine pt_X0_22 F iX3 (F.2.2.1.f 16 rfl) hP hS 1 rfl dX0_startAnew_7 (fun H locs hP hS => ?_)
  have hP : WD D A [(a_z, .inr (0, [.int z_seed_7])), (a_v0, .inr (3, [.ref a_v0_cells, .int v0_places, .ref a_v0_kinds, .ref a_v0_figures, .ref a_v0_longings, .ref a_v0_seas, .int v0_hands, .int v0_aboard, .int r6, .int v0_day, .int v0_rows, .int v0_columns])), (a_v0_seas, .inl (cI, 7, .inl v0_seas))] H := hP
  refine lv_iconst (v := 0) hx hb dX0_startAnew_10 (by decide) ?_
  refine lv_istore_n (lv' := [(2, .int 0), (0, .ref a_z), (1, .ref a_v0)]) hx hb dX0_startAnew_11 rfl hl (by decide) rfl (fun ls hl => ?_)
  obtain ⟨t14, t15, hk16, h⟩ := bd2_e h
  refine L12 r6 g 0 z_seed_7 v0_seas t14 t15 H locs ls hk16 hP hS (lv_sub hl [1, 2, 0] rfl) (fun H locs ls hP hS hl => ?_)
  exact hret 38 H locs ls t14 r6 t15 h dX0_startAnew_38 hP hS
theorem eSX3_isAboard : yX3_isAboard.cls ≠ "java/lang/invoke/MethodHandle" ∧ yX3_isAboard.cls ≠ "java/lang/invoke/VarHandle" ∧ (parseMethodDescriptor yX3_isAboard.desc).map (fun d => d.parameters.length) = some 1 := by decide +kernel
theorem eVX3_isAboard : yX3_isAboard.cls = RX3 ∧ yX3_isAboard.cls ≠ "java/lang/invoke/MethodHandle" ∧ yX3_isAboard.cls ≠ "java/lang/invoke/VarHandle" ∧ (parseMethodDescriptor yX3_isAboard.desc).map (fun d => d.parameters.length) = some 1 := ⟨rfl, eSX3_isAboard⟩
abbrev rmX3_isAboard : Room := { frames := 0, cells := 0, slots := 0, locals := 0 }
def fX3_isAboard (g : Nat) (p0 : Int32) (z_aboard : Int32) : Option (Int32) := if ((z_aboard >>> (p0 &&& 31)) &&& 1) = 1 then (some 1) else (some 0)
set_option maxHeartbeats 4000000 in
set_option maxRecDepth 100000 in
theorem kX3_isAboard (l : Launch) (D : va_G) (cI cJ : ClassId) (sz g : Nat) (a_z a_z_cells a_z_kinds a_z_figures a_z_longings a_z_seas : Nat) (z_places : Int32) (z_hands : Int32) (z_aboard : Int32) (z_ship : Int32) (z_day : Int32) (z_rows : Int32) (z_columns : Int32) (p0 : Int32) (r : Int32) (hf : fX3_isAboard g p0 z_aboard = some r) : Met l yX3_isAboard wsX3_isAboard rmX3_isAboard (va_Pc [.ref a_z, .int p0] (sPc D (tyL cI cJ) [(a_z, .inr (3, [.ref a_z_cells, .int z_places, .ref a_z_kinds, .ref a_z_figures, .ref a_z_longings, .ref a_z_seas, .int z_hands, .int z_aboard, .int z_ship, .int z_day, .int z_rows, .int z_columns]))] sz)) (qI D (tyL cI cJ) [(a_z, .inr (3, [.ref a_z_cells, .int z_places, .ref a_z_kinds, .ref a_z_figures, .ref a_z_longings, .ref a_z_seas, .int z_hands, .int z_aboard, .int z_ship, .int z_day, .int z_rows, .int z_columns]))] sz [(a_z, .inr (3, [.ref a_z_cells, .int z_places, .ref a_z_kinds, .ref a_z_figures, .ref a_z_longings, .ref a_z_seas, .int z_hands, .int z_aboard, .int z_ship, .int z_day, .int z_rows, .int z_columns]))] r) 0 0 (va_A [(a_z, .inr (3, [.ref a_z_cells, .int z_places, .ref a_z_kinds, .ref a_z_figures, .ref a_z_longings, .ref a_z_seas, .int z_hands, .int z_aboard, .int z_ship, .int z_day, .int z_rows, .int z_columns]))] sz) := by
  refine st_i (cc := cX3_isAboard) (maxL := 2) (by decide) rfl (Nat.le_of_ble_eq_true rfl) ?_
  intro p e s m args below meth c A Q F hret0 H locs hP hS ls hl
  have F : Cx p s m args c cX3_isAboard 2 wsX3_isAboard RX3 D (tyL cI cJ) A := F
  have hx := F.1.1
  have hb := F.1.2.1
  have hown := F.1.2.2.2.1
  have hts := F.1.2.2.2.2
  have iX3 : ∀ w ∈ wsX30, w ∈ wsX3_isAboard := fun w h => (List.mem_cons_of_mem _ (List.mem_append_right _ h))
  have hret : ∀ (pc : Nat) (H : Heap) (locs : List Loc) (ls : Array Slot) (r' : Int32), some r' = some r → narrow .boolean (.int r') = .int r' → decode cX3_isAboard pc = .ok (.ireturn, 1) → WD D A [(a_z, .inr (3, [.ref a_z_cells, .int z_places, .ref a_z_kinds, .ref a_z_figures, .ref a_z_longings, .ref a_z_seas, .int z_hands, .int z_aboard, .int z_ship, .int z_day, .int z_rows, .int z_columns]))] H → va_S A s.heap H locs → W p l e rmX3_isAboard s m args below meth c H locs 0 0 Q (F0 m pc ls [.int r']) := by
    intro pc H locs ls r' h hn hd hP hS
    cases h
    exact hret0 pc H locs ls hn hd hP hS
  have hl : lv_has ls 2 [(0, .ref a_z), (1, .int p0)] := hl
  have h := hf
  unfold fX3_isAboard at h
  refine lv_aload_n hx hb dX3_isAboard_0 rfl (lv_at hl 0 rfl) ?_
  refine gt_X3_34 F iX3 (List.mem_cons_of_mem _ (List.mem_append_left _ (List.mem_of_getElem? (i := 0) rfl))) hP 0 rfl dX3_isAboard_1 ?_
  refine lv_iload_n hx hb dX3_isAboard_4 rfl (lv_at hl 1 rfl) ?_
  refine lv_ishr hx hb dX3_isAboard_5 ?_
  refine lv_iconst (v := 1) hx hb dX3_isAboard_6 (by decide) ?_
  refine lv_iand hx hb dX3_isAboard_7 ?_
  refine lv_iconst (v := 1) hx hb dX3_isAboard_8 (by decide) ?_
  refine lv_icmp_ne (tgt := 16) hx hb dX3_isAboard_9 (by decide) (fun hc2 => ?_) (fun hc2 => ?_)
  · have h := it_n hc2 h
    refine lv_iconst (v := 0) hx hb dX3_isAboard_16 (by decide) ?_
    exact hret 17 H locs ls 0 h rfl dX3_isAboard_17 hP hS
  · have h := it_p hc2 h
    refine lv_iconst (v := 1) hx hb dX3_isAboard_12 (by decide) ?_
    refine lv_goto (tgt := 17) hx hb dX3_isAboard_13 (by decide) ?_
    exact hret 17 H locs ls 1 h rfl dX3_isAboard_17 hP hS
theorem eSX3_rowsTo : yX3_rowsTo.cls ≠ "java/lang/invoke/MethodHandle" ∧ yX3_rowsTo.cls ≠ "java/lang/invoke/VarHandle" ∧ (parseMethodDescriptor yX3_rowsTo.desc).map (fun d => d.parameters.length) = some 1 := by decide +kernel
theorem eVX3_rowsTo : yX3_rowsTo.cls = RX3 ∧ yX3_rowsTo.cls ≠ "java/lang/invoke/MethodHandle" ∧ yX3_rowsTo.cls ≠ "java/lang/invoke/VarHandle" ∧ (parseMethodDescriptor yX3_rowsTo.desc).map (fun d => d.parameters.length) = some 1 := ⟨rfl, eSX3_rowsTo⟩
abbrev rmX3_rowsTo : Room := { frames := 0, cells := 0, slots := 0, locals := 0 }
def fX3_rowsTo (g : Nat) (p0 : Int32) (z_ship : Int32) (z_cells : Nat → Int32) (z_longings : Nat → Int32) : Option (Int32) := gd (inB p0 7) (gd (inB (z_longings p0.toNatClampNeg) 6) (some (((z_cells (z_longings p0.toNatClampNeg).toNatClampNeg) / 8) - (z_ship / 8))))
set_option maxHeartbeats 4000000 in
set_option maxRecDepth 100000 in
theorem kX3_rowsTo (l : Launch) (D : va_G) (cI cJ : ClassId) (sz g : Nat) (a_z a_z_cells a_z_kinds a_z_figures a_z_longings a_z_seas : Nat) (z_places : Int32) (z_hands : Int32) (z_aboard : Int32) (z_ship : Int32) (z_day : Int32) (z_rows : Int32) (z_columns : Int32) (z_cells : Nat → Int32) (z_longings : Nat → Int32) (p0 : Int32) (r : Int32) (hf : fX3_rowsTo g p0 z_ship z_cells z_longings = some r) : Met l yX3_rowsTo wsX3_rowsTo rmX3_rowsTo (va_Pc [.ref a_z, .int p0] (sPc D (tyL cI cJ) [(a_z, .inr (3, [.ref a_z_cells, .int z_places, .ref a_z_kinds, .ref a_z_figures, .ref a_z_longings, .ref a_z_seas, .int z_hands, .int z_aboard, .int z_ship, .int z_day, .int z_rows, .int z_columns])), (a_z_cells, .inl (cI, 6, .inl z_cells)), (a_z_longings, .inl (cI, 7, .inl z_longings))] sz)) (qI D (tyL cI cJ) [(a_z, .inr (3, [.ref a_z_cells, .int z_places, .ref a_z_kinds, .ref a_z_figures, .ref a_z_longings, .ref a_z_seas, .int z_hands, .int z_aboard, .int z_ship, .int z_day, .int z_rows, .int z_columns])), (a_z_cells, .inl (cI, 6, .inl z_cells)), (a_z_longings, .inl (cI, 7, .inl z_longings))] sz [(a_z, .inr (3, [.ref a_z_cells, .int z_places, .ref a_z_kinds, .ref a_z_figures, .ref a_z_longings, .ref a_z_seas, .int z_hands, .int z_aboard, .int z_ship, .int z_day, .int z_rows, .int z_columns])), (a_z_cells, .inl (cI, 6, .inl z_cells)), (a_z_longings, .inl (cI, 7, .inl z_longings))] r) 0 0 (va_A [(a_z, .inr (3, [.ref a_z_cells, .int z_places, .ref a_z_kinds, .ref a_z_figures, .ref a_z_longings, .ref a_z_seas, .int z_hands, .int z_aboard, .int z_ship, .int z_day, .int z_rows, .int z_columns])), (a_z_cells, .inl (cI, 6, .inl z_cells)), (a_z_longings, .inl (cI, 7, .inl z_longings))] sz) := by
  refine st_i (cc := cX3_rowsTo) (maxL := 2) (by decide) rfl (Nat.le_of_ble_eq_true rfl) ?_
  intro p e s m args below meth c A Q F hret0 H locs hP hS ls hl
  have F : Cx p s m args c cX3_rowsTo 2 wsX3_rowsTo RX3 D (tyL cI cJ) A := F
  have hx := F.1.1
  have hb := F.1.2.1
  have hown := F.1.2.2.2.1
  have hts := F.1.2.2.2.2
  have iX3 : ∀ w ∈ wsX30, w ∈ wsX3_rowsTo := fun w h => (List.mem_cons_of_mem _ (List.mem_append_right _ h))
  have hret : ∀ (pc : Nat) (H : Heap) (locs : List Loc) (ls : Array Slot) (r' : Int32), some r' = some r → narrow .int (.int r') = .int r' → decode cX3_rowsTo pc = .ok (.ireturn, 1) → WD D A [(a_z, .inr (3, [.ref a_z_cells, .int z_places, .ref a_z_kinds, .ref a_z_figures, .ref a_z_longings, .ref a_z_seas, .int z_hands, .int z_aboard, .int z_ship, .int z_day, .int z_rows, .int z_columns])), (a_z_cells, .inl (cI, 6, .inl z_cells)), (a_z_longings, .inl (cI, 7, .inl z_longings))] H → va_S A s.heap H locs → W p l e rmX3_rowsTo s m args below meth c H locs 0 0 Q (F0 m pc ls [.int r']) := by
    intro pc H locs ls r' h hn hd hP hS
    cases h
    exact hret0 pc H locs ls hn hd hP hS
  have hl : lv_has ls 2 [(0, .ref a_z), (1, .int p0)] := hl
  have h := hf
  unfold fX3_rowsTo at h
  refine lv_aload_n hx hb dX3_rowsTo_0 rfl (lv_at hl 0 rfl) ?_
  refine gt_X3_9 F iX3 (List.mem_cons_of_mem _ (List.mem_append_left _ (List.mem_of_getElem? (i := 0) rfl))) hP 0 rfl dX3_rowsTo_1 ?_
  refine lv_aload_n hx hb dX3_rowsTo_4 rfl (lv_at hl 0 rfl) ?_
  refine gt_X3_21 F iX3 (List.mem_cons_of_mem _ (List.mem_append_left _ (List.mem_of_getElem? (i := 1) rfl))) hP 0 rfl dX3_rowsTo_5 ?_
  refine lv_iload_n hx hb dX3_rowsTo_8 rfl (lv_at hl 1 rfl) ?_
  obtain ⟨hg3, h⟩ := gd_e h
  refine r_ia F hP 2 rfl rfl hg3 dX3_rowsTo_9 ?_
  obtain ⟨hg4, h⟩ := gd_e h
  refine r_ia F hP 1 rfl rfl hg4 dX3_rowsTo_10 ?_
  refine lv_bipush (v := 8) hx hb dX3_rowsTo_11 (by decide) ?_
  refine lv_idiv hx hb dX3_rowsTo_13 (by decide) ?_
  refine lv_aload_n hx hb dX3_rowsTo_14 rfl (lv_at hl 0 rfl) ?_
  refine gt_X3_37 F iX3 (List.mem_cons_of_mem _ (List.mem_append_left _ (List.mem_of_getElem? (i := 2) rfl))) hP 0 rfl dX3_rowsTo_15 ?_
  refine lv_bipush (v := 8) hx hb dX3_rowsTo_18 (by decide) ?_
  refine lv_idiv hx hb dX3_rowsTo_20 (by decide) ?_
  refine lv_isub hx hb dX3_rowsTo_21 ?_
  exact hret 22 H locs ls (((z_cells (z_longings p0.toNatClampNeg).toNatClampNeg) / 8) - (z_ship / 8)) h rfl dX3_rowsTo_22 hP hS
theorem eSX3_columnsTo : yX3_columnsTo.cls ≠ "java/lang/invoke/MethodHandle" ∧ yX3_columnsTo.cls ≠ "java/lang/invoke/VarHandle" ∧ (parseMethodDescriptor yX3_columnsTo.desc).map (fun d => d.parameters.length) = some 1 := by decide +kernel
theorem eVX3_columnsTo : yX3_columnsTo.cls = RX3 ∧ yX3_columnsTo.cls ≠ "java/lang/invoke/MethodHandle" ∧ yX3_columnsTo.cls ≠ "java/lang/invoke/VarHandle" ∧ (parseMethodDescriptor yX3_columnsTo.desc).map (fun d => d.parameters.length) = some 1 := ⟨rfl, eSX3_columnsTo⟩
abbrev rmX3_columnsTo : Room := { frames := 0, cells := 0, slots := 0, locals := 0 }
def fX3_columnsTo (g : Nat) (p0 : Int32) (z_ship : Int32) (z_cells : Nat → Int32) (z_longings : Nat → Int32) : Option (Int32) := gd (inB p0 7) (gd (inB (z_longings p0.toNatClampNeg) 6) (some (((z_cells (z_longings p0.toNatClampNeg).toNatClampNeg) - (z_cells (z_longings p0.toNatClampNeg).toNatClampNeg) / 8 * 8) - (z_ship - z_ship / 8 * 8))))
set_option maxHeartbeats 4000000 in
set_option maxRecDepth 100000 in
theorem kX3_columnsTo (l : Launch) (D : va_G) (cI cJ : ClassId) (sz g : Nat) (a_z a_z_cells a_z_kinds a_z_figures a_z_longings a_z_seas : Nat) (z_places : Int32) (z_hands : Int32) (z_aboard : Int32) (z_ship : Int32) (z_day : Int32) (z_rows : Int32) (z_columns : Int32) (z_cells : Nat → Int32) (z_longings : Nat → Int32) (p0 : Int32) (r : Int32) (hf : fX3_columnsTo g p0 z_ship z_cells z_longings = some r) : Met l yX3_columnsTo wsX3_columnsTo rmX3_columnsTo (va_Pc [.ref a_z, .int p0] (sPc D (tyL cI cJ) [(a_z, .inr (3, [.ref a_z_cells, .int z_places, .ref a_z_kinds, .ref a_z_figures, .ref a_z_longings, .ref a_z_seas, .int z_hands, .int z_aboard, .int z_ship, .int z_day, .int z_rows, .int z_columns])), (a_z_cells, .inl (cI, 6, .inl z_cells)), (a_z_longings, .inl (cI, 7, .inl z_longings))] sz)) (qI D (tyL cI cJ) [(a_z, .inr (3, [.ref a_z_cells, .int z_places, .ref a_z_kinds, .ref a_z_figures, .ref a_z_longings, .ref a_z_seas, .int z_hands, .int z_aboard, .int z_ship, .int z_day, .int z_rows, .int z_columns])), (a_z_cells, .inl (cI, 6, .inl z_cells)), (a_z_longings, .inl (cI, 7, .inl z_longings))] sz [(a_z, .inr (3, [.ref a_z_cells, .int z_places, .ref a_z_kinds, .ref a_z_figures, .ref a_z_longings, .ref a_z_seas, .int z_hands, .int z_aboard, .int z_ship, .int z_day, .int z_rows, .int z_columns])), (a_z_cells, .inl (cI, 6, .inl z_cells)), (a_z_longings, .inl (cI, 7, .inl z_longings))] r) 0 0 (va_A [(a_z, .inr (3, [.ref a_z_cells, .int z_places, .ref a_z_kinds, .ref a_z_figures, .ref a_z_longings, .ref a_z_seas, .int z_hands, .int z_aboard, .int z_ship, .int z_day, .int z_rows, .int z_columns])), (a_z_cells, .inl (cI, 6, .inl z_cells)), (a_z_longings, .inl (cI, 7, .inl z_longings))] sz) := by
  refine st_i (cc := cX3_columnsTo) (maxL := 2) (by decide) rfl (Nat.le_of_ble_eq_true rfl) ?_
  intro p e s m args below meth c A Q F hret0 H locs hP hS ls hl
  have F : Cx p s m args c cX3_columnsTo 2 wsX3_columnsTo RX3 D (tyL cI cJ) A := F
  have hx := F.1.1
  have hb := F.1.2.1
  have hown := F.1.2.2.2.1
  have hts := F.1.2.2.2.2
  have iX3 : ∀ w ∈ wsX30, w ∈ wsX3_columnsTo := fun w h => (List.mem_cons_of_mem _ (List.mem_append_right _ h))
  have hret : ∀ (pc : Nat) (H : Heap) (locs : List Loc) (ls : Array Slot) (r' : Int32), some r' = some r → narrow .int (.int r') = .int r' → decode cX3_columnsTo pc = .ok (.ireturn, 1) → WD D A [(a_z, .inr (3, [.ref a_z_cells, .int z_places, .ref a_z_kinds, .ref a_z_figures, .ref a_z_longings, .ref a_z_seas, .int z_hands, .int z_aboard, .int z_ship, .int z_day, .int z_rows, .int z_columns])), (a_z_cells, .inl (cI, 6, .inl z_cells)), (a_z_longings, .inl (cI, 7, .inl z_longings))] H → va_S A s.heap H locs → W p l e rmX3_columnsTo s m args below meth c H locs 0 0 Q (F0 m pc ls [.int r']) := by
    intro pc H locs ls r' h hn hd hP hS
    cases h
    exact hret0 pc H locs ls hn hd hP hS
  have hl : lv_has ls 2 [(0, .ref a_z), (1, .int p0)] := hl
  have h := hf
  unfold fX3_columnsTo at h
  refine lv_aload_n hx hb dX3_columnsTo_0 rfl (lv_at hl 0 rfl) ?_
  refine gt_X3_9 F iX3 (List.mem_cons_of_mem _ (List.mem_append_left _ (List.mem_of_getElem? (i := 0) rfl))) hP 0 rfl dX3_columnsTo_1 ?_
  refine lv_aload_n hx hb dX3_columnsTo_4 rfl (lv_at hl 0 rfl) ?_
  refine gt_X3_21 F iX3 (List.mem_cons_of_mem _ (List.mem_append_left _ (List.mem_of_getElem? (i := 1) rfl))) hP 0 rfl dX3_columnsTo_5 ?_
  refine lv_iload_n hx hb dX3_columnsTo_8 rfl (lv_at hl 1 rfl) ?_
  obtain ⟨hg3, h⟩ := gd_e h
  refine r_ia F hP 2 rfl rfl hg3 dX3_columnsTo_9 ?_
  obtain ⟨hg4, h⟩ := gd_e h
  refine r_ia F hP 1 rfl rfl hg4 dX3_columnsTo_10 ?_
  refine lv_bipush (v := 8) hx hb dX3_columnsTo_11 (by decide) ?_
  refine lv_irem hx hb dX3_columnsTo_13 (by decide) ?_
  refine lv_aload_n hx hb dX3_columnsTo_14 rfl (lv_at hl 0 rfl) ?_
  refine gt_X3_37 F iX3 (List.mem_cons_of_mem _ (List.mem_append_left _ (List.mem_of_getElem? (i := 2) rfl))) hP 0 rfl dX3_columnsTo_15 ?_
  refine lv_bipush (v := 8) hx hb dX3_columnsTo_18 (by decide) ?_
  refine lv_irem hx hb dX3_columnsTo_20 (by decide) ?_
  refine lv_isub hx hb dX3_columnsTo_21 ?_
  exact hret 22 H locs ls (((z_cells (z_longings p0.toNatClampNeg).toNatClampNeg) - (z_cells (z_longings p0.toNatClampNeg).toNatClampNeg) / 8 * 8) - (z_ship - z_ship / 8 * 8)) h rfl dX3_columnsTo_22 hP hS
theorem eSX3_leanOf : yX3_leanOf.cls ≠ "java/lang/invoke/MethodHandle" ∧ yX3_leanOf.cls ≠ "java/lang/invoke/VarHandle" ∧ (parseMethodDescriptor yX3_leanOf.desc).map (fun d => d.parameters.length) = some 2 := by decide +kernel
theorem eVX3_leanOf : yX3_leanOf.cls = RX3 ∧ yX3_leanOf.cls ≠ "java/lang/invoke/MethodHandle" ∧ yX3_leanOf.cls ≠ "java/lang/invoke/VarHandle" ∧ (parseMethodDescriptor yX3_leanOf.desc).map (fun d => d.parameters.length) = some 2 := ⟨rfl, eSX3_leanOf⟩
abbrev rmX3_leanOf : Room := { frames := 0, cells := 0, slots := 0, locals := 0 }
def fX3_leanOf (g : Nat) (p0 : Int32) (p1 : Int32) (z_kinds : Nat → Int32) (z_figures : Nat → Int32) (z_seas : Nat → Int32) : Option (Int32) := gd (inB p0 7) (gd (inB p0 7) (if (z_kinds p0.toNatClampNeg) = 0 then (some (((z_seas p0.toNatClampNeg) / 5) + 1)) else (if (z_kinds p0.toNatClampNeg) = 1 then (some (2 * (((z_seas p0.toNatClampNeg) / 5) + 1))) else (if (z_kinds p0.toNatClampNeg) = 2 then (some 0) else (if (z_kinds p0.toNatClampNeg) = 3 then (gd (inB p0 7) (some ((((z_seas p0.toNatClampNeg) / 5) + 1) + ((z_figures p0.toNatClampNeg) / 3)))) else (if (z_kinds p0.toNatClampNeg) = 4 then (gd (inB p0 7) (some (-((((z_seas p0.toNatClampNeg) / 5) + 1) + ((z_figures p0.toNatClampNeg) / 3))))) else (if (z_kinds p0.toNatClampNeg) = 5 then (if p1 < 4 then (some (4 * (((z_seas p0.toNatClampNeg) / 5) + 1))) else (some (((z_seas p0.toNatClampNeg) / 5) + 1))) else (some 0))))))))
set_option maxHeartbeats 4000000 in
set_option maxRecDepth 100000 in
theorem kX3_leanOf (l : Launch) (D : va_G) (cI cJ : ClassId) (sz g : Nat) (a_z a_z_cells a_z_kinds a_z_figures a_z_longings a_z_seas : Nat) (z_places : Int32) (z_hands : Int32) (z_aboard : Int32) (z_ship : Int32) (z_day : Int32) (z_rows : Int32) (z_columns : Int32) (z_kinds : Nat → Int32) (z_figures : Nat → Int32) (z_seas : Nat → Int32) (p0 : Int32) (p1 : Int32) (r : Int32) (hf : fX3_leanOf g p0 p1 z_kinds z_figures z_seas = some r) : Met l yX3_leanOf wsX3_leanOf rmX3_leanOf (va_Pc [.ref a_z, .int p0, .int p1] (sPc D (tyL cI cJ) [(a_z, .inr (3, [.ref a_z_cells, .int z_places, .ref a_z_kinds, .ref a_z_figures, .ref a_z_longings, .ref a_z_seas, .int z_hands, .int z_aboard, .int z_ship, .int z_day, .int z_rows, .int z_columns])), (a_z_kinds, .inl (cI, 7, .inl z_kinds)), (a_z_figures, .inl (cI, 7, .inl z_figures)), (a_z_seas, .inl (cI, 7, .inl z_seas))] sz)) (qI D (tyL cI cJ) [(a_z, .inr (3, [.ref a_z_cells, .int z_places, .ref a_z_kinds, .ref a_z_figures, .ref a_z_longings, .ref a_z_seas, .int z_hands, .int z_aboard, .int z_ship, .int z_day, .int z_rows, .int z_columns])), (a_z_kinds, .inl (cI, 7, .inl z_kinds)), (a_z_figures, .inl (cI, 7, .inl z_figures)), (a_z_seas, .inl (cI, 7, .inl z_seas))] sz [(a_z, .inr (3, [.ref a_z_cells, .int z_places, .ref a_z_kinds, .ref a_z_figures, .ref a_z_longings, .ref a_z_seas, .int z_hands, .int z_aboard, .int z_ship, .int z_day, .int z_rows, .int z_columns])), (a_z_kinds, .inl (cI, 7, .inl z_kinds)), (a_z_figures, .inl (cI, 7, .inl z_figures)), (a_z_seas, .inl (cI, 7, .inl z_seas))] r) 0 0 (va_A [(a_z, .inr (3, [.ref a_z_cells, .int z_places, .ref a_z_kinds, .ref a_z_figures, .ref a_z_longings, .ref a_z_seas, .int z_hands, .int z_aboard, .int z_ship, .int z_day, .int z_rows, .int z_columns])), (a_z_kinds, .inl (cI, 7, .inl z_kinds)), (a_z_figures, .inl (cI, 7, .inl z_figures)), (a_z_seas, .inl (cI, 7, .inl z_seas))] sz) := by
  refine st_i (cc := cX3_leanOf) (maxL := 4) (by decide) rfl (Nat.le_of_ble_eq_true rfl) ?_
  intro p e s m args below meth c A Q F hret0 H locs hP hS ls hl
  have F : Cx p s m args c cX3_leanOf 4 wsX3_leanOf RX3 D (tyL cI cJ) A := F
  have hx := F.1.1
  have hb := F.1.2.1
  have hown := F.1.2.2.2.1
  have hts := F.1.2.2.2.2
  have iX3 : ∀ w ∈ wsX30, w ∈ wsX3_leanOf := fun w h => (List.mem_cons_of_mem _ (List.mem_append_right _ h))
  have hret : ∀ (pc : Nat) (H : Heap) (locs : List Loc) (ls : Array Slot) (r' : Int32), some r' = some r → narrow .int (.int r') = .int r' → decode cX3_leanOf pc = .ok (.ireturn, 1) → WD D A [(a_z, .inr (3, [.ref a_z_cells, .int z_places, .ref a_z_kinds, .ref a_z_figures, .ref a_z_longings, .ref a_z_seas, .int z_hands, .int z_aboard, .int z_ship, .int z_day, .int z_rows, .int z_columns])), (a_z_kinds, .inl (cI, 7, .inl z_kinds)), (a_z_figures, .inl (cI, 7, .inl z_figures)), (a_z_seas, .inl (cI, 7, .inl z_seas))] H → va_S A s.heap H locs → W p l e rmX3_leanOf s m args below meth c H locs 0 0 Q (F0 m pc ls [.int r']) := by
    intro pc H locs ls r' h hn hd hP hS
    cases h
    exact hret0 pc H locs ls hn hd hP hS
  have hl : lv_has ls 4 [(0, .ref a_z), (1, .int p0), (2, .int p1)] := hl
  have h := hf
  unfold fX3_leanOf at h
  refine lv_aload_n hx hb dX3_leanOf_0 rfl (lv_at hl 0 rfl) ?_
  refine gt_X3_24 F iX3 (List.mem_cons_of_mem _ (List.mem_append_left _ (List.mem_of_getElem? (i := 0) rfl))) hP 0 rfl dX3_leanOf_1 ?_
  refine lv_iload_n hx hb dX3_leanOf_4 rfl (lv_at hl 1 rfl) ?_
  obtain ⟨hg12, h⟩ := gd_e h
  refine r_ia F hP 3 rfl rfl hg12 dX3_leanOf_5 ?_
  refine lv_iconst (v := 5) hx hb dX3_leanOf_6 (by decide) ?_
  refine lv_idiv hx hb dX3_leanOf_7 (by decide) ?_
  refine lv_iconst (v := 1) hx hb dX3_leanOf_8 (by decide) ?_
  refine lv_iadd hx hb dX3_leanOf_9 ?_
  refine lv_istore_n (lv' := [(3, .int (((z_seas p0.toNatClampNeg) / 5) + 1)), (0, .ref a_z), (1, .int p0), (2, .int p1)]) hx hb dX3_leanOf_10 rfl hl (by decide) rfl (fun ls hl => ?_)
  refine lv_aload_n hx hb dX3_leanOf_11 rfl (lv_at hl 1 rfl) ?_
  refine gt_X3_15 F iX3 (List.mem_cons_of_mem _ (List.mem_append_left _ (List.mem_of_getElem? (i := 1) rfl))) hP 0 rfl dX3_leanOf_12 ?_
  refine lv_iload_n hx hb dX3_leanOf_15 rfl (lv_at hl 2 rfl) ?_
  obtain ⟨hg13, h⟩ := gd_e h
  refine r_ia F hP 1 rfl rfl hg13 dX3_leanOf_16 ?_
  by_cases hc14 : (z_kinds p0.toNatClampNeg) = 0
  · have h := it_p hc14 h
    refine lv_tableIn (off := 39) (tgt := 56) hx hb dX3_leanOf_17 (by rw [hc14]; decide) (by rw [hc14]; decide) (by rw [hc14]; rfl) (by decide) ?_
    refine lv_iload_n hx hb dX3_leanOf_56 rfl (lv_at hl 0 rfl) ?_
    exact hret 57 H locs ls (((z_seas p0.toNatClampNeg) / 5) + 1) h rfl dX3_leanOf_57 hP hS
  · have h := it_n hc14 h
    by_cases hc15 : (z_kinds p0.toNatClampNeg) = 1
    · have h := it_p hc15 h
      refine lv_tableIn (off := 41) (tgt := 58) hx hb dX3_leanOf_17 (by rw [hc15]; decide) (by rw [hc15]; decide) (by rw [hc15]; rfl) (by decide) ?_
      refine lv_iconst (v := 2) hx hb dX3_leanOf_58 (by decide) ?_
      refine lv_iload_n hx hb dX3_leanOf_59 rfl (lv_at hl 0 rfl) ?_
      refine lv_imul hx hb dX3_leanOf_60 ?_
      exact hret 61 H locs ls (2 * (((z_seas p0.toNatClampNeg) / 5) + 1)) h rfl dX3_leanOf_61 hP hS
    · have h := it_n hc15 h
      by_cases hc16 : (z_kinds p0.toNatClampNeg) = 2
      · have h := it_p hc16 h
        refine lv_tableIn (off := 45) (tgt := 62) hx hb dX3_leanOf_17 (by rw [hc16]; decide) (by rw [hc16]; decide) (by rw [hc16]; rfl) (by decide) ?_
        refine lv_iconst (v := 0) hx hb dX3_leanOf_62 (by decide) ?_
        exact hret 63 H locs ls 0 h rfl dX3_leanOf_63 hP hS
      · have h := it_n hc16 h
        by_cases hc17 : (z_kinds p0.toNatClampNeg) = 3
        · have h := it_p hc17 h
          refine lv_tableIn (off := 47) (tgt := 64) hx hb dX3_leanOf_17 (by rw [hc17]; decide) (by rw [hc17]; decide) (by rw [hc17]; rfl) (by decide) ?_
          refine lv_iload_n hx hb dX3_leanOf_64 rfl (lv_at hl 0 rfl) ?_
          refine lv_aload_n hx hb dX3_leanOf_65 rfl (lv_at hl 1 rfl) ?_
          refine gt_X3_18 F iX3 (List.mem_cons_of_mem _ (List.mem_append_left _ (List.mem_of_getElem? (i := 2) rfl))) hP 0 rfl dX3_leanOf_66 ?_
          refine lv_iload_n hx hb dX3_leanOf_69 rfl (lv_at hl 2 rfl) ?_
          obtain ⟨hg22, h⟩ := gd_e h
          refine r_ia F hP 2 rfl rfl hg22 dX3_leanOf_70 ?_
          refine lv_iconst (v := 3) hx hb dX3_leanOf_71 (by decide) ?_
          refine lv_idiv hx hb dX3_leanOf_72 (by decide) ?_
          refine lv_iadd hx hb dX3_leanOf_73 ?_
          exact hret 74 H locs ls ((((z_seas p0.toNatClampNeg) / 5) + 1) + ((z_figures p0.toNatClampNeg) / 3)) h rfl dX3_leanOf_74 hP hS
        · have h := it_n hc17 h
          by_cases hc18 : (z_kinds p0.toNatClampNeg) = 4
          · have h := it_p hc18 h
            refine lv_tableIn (off := 58) (tgt := 75) hx hb dX3_leanOf_17 (by rw [hc18]; decide) (by rw [hc18]; decide) (by rw [hc18]; rfl) (by decide) ?_
            refine lv_iload_n hx hb dX3_leanOf_75 rfl (lv_at hl 0 rfl) ?_
            refine lv_aload_n hx hb dX3_leanOf_76 rfl (lv_at hl 1 rfl) ?_
            refine gt_X3_18 F iX3 (List.mem_cons_of_mem _ (List.mem_append_left _ (List.mem_of_getElem? (i := 2) rfl))) hP 0 rfl dX3_leanOf_77 ?_
            refine lv_iload_n hx hb dX3_leanOf_80 rfl (lv_at hl 2 rfl) ?_
            obtain ⟨hg21, h⟩ := gd_e h
            refine r_ia F hP 2 rfl rfl hg21 dX3_leanOf_81 ?_
            refine lv_iconst (v := 3) hx hb dX3_leanOf_82 (by decide) ?_
            refine lv_idiv hx hb dX3_leanOf_83 (by decide) ?_
            refine lv_iadd hx hb dX3_leanOf_84 ?_
            refine lv_ineg hx hb dX3_leanOf_85 ?_
            exact hret 86 H locs ls (-((((z_seas p0.toNatClampNeg) / 5) + 1) + ((z_figures p0.toNatClampNeg) / 3))) h rfl dX3_leanOf_86 hP hS
          · have h := it_n hc18 h
            by_cases hc19 : (z_kinds p0.toNatClampNeg) = 5
            · have h := it_p hc19 h
              refine lv_tableIn (off := 70) (tgt := 87) hx hb dX3_leanOf_17 (by rw [hc19]; decide) (by rw [hc19]; decide) (by rw [hc19]; rfl) (by decide) ?_
              refine lv_iload_n hx hb dX3_leanOf_87 rfl (lv_at hl 3 rfl) ?_
              refine lv_iconst (v := 4) hx hb dX3_leanOf_88 (by decide) ?_
              refine lv_icmp_lt (tgt := 96) hx hb dX3_leanOf_89 (by decide) (fun hc20 => ?_) (fun hc20 => ?_)
              · have h := it_p hc20 h
                refine lv_iconst (v := 4) hx hb dX3_leanOf_96 (by decide) ?_
                refine lv_iload_n hx hb dX3_leanOf_97 rfl (lv_at hl 0 rfl) ?_
                refine lv_imul hx hb dX3_leanOf_98 ?_
                exact hret 99 H locs ls (4 * (((z_seas p0.toNatClampNeg) / 5) + 1)) h rfl dX3_leanOf_99 hP hS
              · have h := it_n hc20 h
                refine lv_iload_n hx hb dX3_leanOf_92 rfl (lv_at hl 0 rfl) ?_
                refine lv_goto (tgt := 99) hx hb dX3_leanOf_93 (by decide) ?_
                exact hret 99 H locs ls (((z_seas p0.toNatClampNeg) / 5) + 1) h rfl dX3_leanOf_99 hP hS
            · have h := it_n hc19 h
              refine lv_tabD (tgt := 100) [0, 1, 2, 3, 4, 5] hx hb dX3_leanOf_17 (by decide) (by decide) (List.forall_mem_cons.mpr ⟨lv_neT hc14 (by decide), List.forall_mem_cons.mpr ⟨lv_neT hc15 (by decide), List.forall_mem_cons.mpr ⟨lv_neT hc16 (by decide), List.forall_mem_cons.mpr ⟨lv_neT hc17 (by decide), List.forall_mem_cons.mpr ⟨lv_neT hc18 (by decide), List.forall_mem_cons.mpr ⟨lv_neT hc19 (by decide), fun _ h9 => absurd h9 List.not_mem_nil⟩⟩⟩⟩⟩⟩) (by decide) ?_
              refine lv_iconst (v := 0) hx hb dX3_leanOf_100 (by decide) ?_
              exact hret 101 H locs ls 0 h rfl dX3_leanOf_101 hP hS
theorem eSJ6_compare_7cf53 : yJ6_compare_7cf53.cls ≠ "java/lang/invoke/MethodHandle" ∧ yJ6_compare_7cf53.cls ≠ "java/lang/invoke/VarHandle" ∧ (parseMethodDescriptor yJ6_compare_7cf53.desc).map (fun d => d.parameters.length) = some 2 := by decide +kernel
theorem eVJ6_compare_7cf53 : yJ6_compare_7cf53.cls = RJ6 ∧ yJ6_compare_7cf53.cls ≠ "java/lang/invoke/MethodHandle" ∧ yJ6_compare_7cf53.cls ≠ "java/lang/invoke/VarHandle" ∧ (parseMethodDescriptor yJ6_compare_7cf53.desc).map (fun d => d.parameters.length) = some 2 := ⟨rfl, eSJ6_compare_7cf53⟩
abbrev rmJ6_compare_7cf53 : Room := { frames := 0, cells := 0, slots := 0, locals := 0 }
def fJ6_compare_7cf53 (g : Nat) (p0 : Int32) (p1 : Int32) : Option (Int32) := if p1 ≤ p0 then (if p0 = p1 then (some 0) else (some 1)) else (some (-1))
set_option maxHeartbeats 4000000 in
set_option maxRecDepth 100000 in
theorem kJ6_compare_7cf53 (l : Launch) (D : va_G) (cI cJ : ClassId) (sz g : Nat) (p0 : Int32) (p1 : Int32) (r : Int32) (hf : fJ6_compare_7cf53 g p0 p1 = some r) : Met l yJ6_compare_7cf53 wsJ6_compare_7cf53 rmJ6_compare_7cf53 (va_Pc [.int p0, .int p1] (sPc D (tyL cI cJ) [] sz)) (qI D (tyL cI cJ) [] sz [] r) 0 0 (va_A [] sz) := by
  refine st_i (cc := cJ6_compare_7cf53) (maxL := 2) (by decide) rfl (Nat.le_of_ble_eq_true rfl) ?_
  intro p e s m args below meth c A Q F hret0 H locs hP hS ls hl
  have F : Cx p s m args c cJ6_compare_7cf53 2 wsJ6_compare_7cf53 RJ6 D (tyL cI cJ) A := F
  have hx := F.1.1
  have hb := F.1.2.1
  have hown := F.1.2.2.2.1
  have hts := F.1.2.2.2.2
  have hret : ∀ (pc : Nat) (H : Heap) (locs : List Loc) (ls : Array Slot) (r' : Int32), some r' = some r → narrow .int (.int r') = .int r' → decode cJ6_compare_7cf53 pc = .ok (.ireturn, 1) → WD D A [] H → va_S A s.heap H locs → W p l e rmJ6_compare_7cf53 s m args below meth c H locs 0 0 Q (F0 m pc ls [.int r']) := by
    intro pc H locs ls r' h hn hd hP hS
    cases h
    exact hret0 pc H locs ls hn hd hP hS
  have hl : lv_has ls 2 [(0, .int p0), (1, .int p1)] := hl
  have h := hf
  unfold fJ6_compare_7cf53 at h
  refine lv_iload_n hx hb dJ6_compare_7cf53_0 rfl (lv_at hl 0 rfl) ?_
  refine lv_iload_n hx hb dJ6_compare_7cf53_1 rfl (lv_at hl 1 rfl) ?_
  refine lv_icmp_ge (tgt := 9) hx hb dJ6_compare_7cf53_2 (by decide) (fun hc3 => ?_) (fun hc3 => ?_)
  · have h := it_p hc3 h
    refine lv_iload_n hx hb dJ6_compare_7cf53_9 rfl (lv_at hl 0 rfl) ?_
    refine lv_iload_n hx hb dJ6_compare_7cf53_10 rfl (lv_at hl 1 rfl) ?_
    refine lv_icmp_ne (tgt := 18) hx hb dJ6_compare_7cf53_11 (by decide) (fun hc4 => ?_) (fun hc4 => ?_)
    · have h := it_n hc4 h
      refine lv_iconst (v := 1) hx hb dJ6_compare_7cf53_18 (by decide) ?_
      exact hret 19 H locs ls 1 h rfl dJ6_compare_7cf53_19 hP hS
    · have h := it_p hc4 h
      refine lv_iconst (v := 0) hx hb dJ6_compare_7cf53_14 (by decide) ?_
      refine lv_goto (tgt := 19) hx hb dJ6_compare_7cf53_15 (by decide) ?_
      exact hret 19 H locs ls 0 h rfl dJ6_compare_7cf53_19 hP hS
  · have h := it_n hc3 h
    refine lv_iconst (v := (-1)) hx hb dJ6_compare_7cf53_5 (by decide) ?_
    refine lv_goto (tgt := 19) hx hb dJ6_compare_7cf53_6 (by decide) ?_
    exact hret 19 H locs ls (-1) h rfl dJ6_compare_7cf53_19 hP hS
theorem eSX3_weigh : yX3_weigh.cls ≠ "java/lang/invoke/MethodHandle" ∧ yX3_weigh.cls ≠ "java/lang/invoke/VarHandle" ∧ (parseMethodDescriptor yX3_weigh.desc).map (fun d => d.parameters.length) = some 0 := by decide +kernel
theorem eVX3_weigh : yX3_weigh.cls = RX3 ∧ yX3_weigh.cls ≠ "java/lang/invoke/MethodHandle" ∧ yX3_weigh.cls ≠ "java/lang/invoke/VarHandle" ∧ (parseMethodDescriptor yX3_weigh.desc).map (fun d => d.parameters.length) = some 0 := ⟨rfl, eSX3_weigh⟩
abbrev rmX3_weigh : Room := { frames := 1, cells := 0, slots := 0, locals := 23 }
def fX3_weigh_L12_b (g : Nat) (z_hands : Int32) (z_aboard : Int32) (z_ship : Int32) (z_cells : Nat → Int32) (z_kinds : Nat → Int32) (z_figures : Nat → Int32) (z_longings : Nat → Int32) (z_seas : Nat → Int32) (self : Int32 → Int32 → Int32 → Option (Int32 × Int32)) (x1_L12 : Int32) (z_rows_L12 : Int32) (z_columns_L12 : Int32) : Option (Int32 × Int32) := if z_hands ≤ x1_L12 then (some (z_rows_L12, z_columns_L12)) else (bd1 (fX3_isAboard g x1_L12 z_aboard) fun r4 => (if r4 = 0 then (self (x1_L12 + 1) z_rows_L12 z_columns_L12) else (bd1 (fX3_rowsTo g x1_L12 z_ship z_cells z_longings) fun r7 => (bd1 (fX3_columnsTo g x1_L12 z_ship z_cells z_longings) fun r9 => (bd1 (fX3_leanOf g x1_L12 ((if 0 ≤ r7 then r7 else 0 - r7) + (if 0 ≤ r9 then r9 else 0 - r9)) z_kinds z_figures z_seas) fun r11 => (bd1 (fJ6_compare_7cf53 g r7 0) fun r13 => (bd1 (fJ6_compare_7cf53 g r9 0) fun r15 => (self (x1_L12 + 1) (z_rows_L12 + (r11 * r13)) (z_columns_L12 + (r11 * r15))))))))))
def fX3_weigh_L12 (g : Nat) (z_hands : Int32) (z_aboard : Int32) (z_ship : Int32) (z_cells : Nat → Int32) (z_kinds : Nat → Int32) (z_figures : Nat → Int32) (z_longings : Nat → Int32) (z_seas : Nat → Int32) (n : Nat) : Int32 → Int32 → Int32 → Option (Int32 × Int32) := lp (fX3_weigh_L12_b g z_hands z_aboard z_ship z_cells z_kinds z_figures z_longings z_seas) (fun _ _ _ => none) n
def fX3_weigh (g : Nat) (z_hands : Int32) (z_aboard : Int32) (z_ship : Int32) (z_cells : Nat → Int32) (z_kinds : Nat → Int32) (z_figures : Nat → Int32) (z_longings : Nat → Int32) (z_seas : Nat → Int32) : Option (Int32 × Int32) := bd2 (fX3_weigh_L12 g z_hands z_aboard z_ship z_cells z_kinds z_figures z_longings z_seas g 0 0 0) fun t17 t18 => (some (t17, t18))
set_option maxHeartbeats 4000000 in
set_option maxRecDepth 100000 in
theorem kX3_weigh (l : Launch) (D : va_G) (cI cJ : ClassId) (sz g : Nat) (a_z a_z_cells a_z_kinds a_z_figures a_z_longings a_z_seas : Nat) (z_places : Int32) (z_hands : Int32) (z_aboard : Int32) (z_ship : Int32) (z_day : Int32) (z_rows : Int32) (z_columns : Int32) (z_cells : Nat → Int32) (z_kinds : Nat → Int32) (z_figures : Nat → Int32) (z_longings : Nat → Int32) (z_seas : Nat → Int32) (n_z_rows : Int32) (n_z_columns : Int32) (hf : fX3_weigh g z_hands z_aboard z_ship z_cells z_kinds z_figures z_longings z_seas = some (n_z_rows, n_z_columns)) : Met l yX3_weigh wsX3_weigh rmX3_weigh (va_Pc [.ref a_z] (sPc D (tyL cI cJ) [(a_z, .inr (3, [.ref a_z_cells, .int z_places, .ref a_z_kinds, .ref a_z_figures, .ref a_z_longings, .ref a_z_seas, .int z_hands, .int z_aboard, .int z_ship, .int z_day, .int z_rows, .int z_columns])), (a_z_cells, .inl (cI, 6, .inl z_cells)), (a_z_kinds, .inl (cI, 7, .inl z_kinds)), (a_z_figures, .inl (cI, 7, .inl z_figures)), (a_z_longings, .inl (cI, 7, .inl z_longings)), (a_z_seas, .inl (cI, 7, .inl z_seas))] sz)) (qV D (tyL cI cJ) [(a_z, .inr (3, [.ref a_z_cells, .int z_places, .ref a_z_kinds, .ref a_z_figures, .ref a_z_longings, .ref a_z_seas, .int z_hands, .int z_aboard, .int z_ship, .int z_day, .int z_rows, .int z_columns])), (a_z_cells, .inl (cI, 6, .inl z_cells)), (a_z_kinds, .inl (cI, 7, .inl z_kinds)), (a_z_figures, .inl (cI, 7, .inl z_figures)), (a_z_longings, .inl (cI, 7, .inl z_longings)), (a_z_seas, .inl (cI, 7, .inl z_seas))] sz [(a_z, .inr (3, [.ref a_z_cells, .int z_places, .ref a_z_kinds, .ref a_z_figures, .ref a_z_longings, .ref a_z_seas, .int z_hands, .int z_aboard, .int z_ship, .int z_day, .int n_z_rows, .int n_z_columns])), (a_z_cells, .inl (cI, 6, .inl z_cells)), (a_z_kinds, .inl (cI, 7, .inl z_kinds)), (a_z_figures, .inl (cI, 7, .inl z_figures)), (a_z_longings, .inl (cI, 7, .inl z_longings)), (a_z_seas, .inl (cI, 7, .inl z_seas))]) 0 0 (va_A [(a_z, .inr (3, [.ref a_z_cells, .int z_places, .ref a_z_kinds, .ref a_z_figures, .ref a_z_longings, .ref a_z_seas, .int z_hands, .int z_aboard, .int z_ship, .int z_day, .int z_rows, .int z_columns])), (a_z_cells, .inl (cI, 6, .inl z_cells)), (a_z_kinds, .inl (cI, 7, .inl z_kinds)), (a_z_figures, .inl (cI, 7, .inl z_figures)), (a_z_longings, .inl (cI, 7, .inl z_longings)), (a_z_seas, .inl (cI, 7, .inl z_seas))] sz) := by
  refine st_v (cc := cX3_weigh) (maxL := 5) (by decide) rfl (Nat.le_of_ble_eq_true rfl) ?_
  intro p e s m args below meth c A Q F hret0 H locs hP hS ls hl
  have F : Cx p s m args c cX3_weigh 5 wsX3_weigh RX3 D (tyL cI cJ) A := F
  have hx := F.1.1
  have hb := F.1.2.1
  have hown := F.1.2.2.2.1
  have hts := F.1.2.2.2.2
  have iX3 : ∀ w ∈ wsX30, w ∈ wsX3_weigh := fun w h => (List.mem_cons_of_mem _ (List.mem_append_right _ h))
  have hret : ∀ (pc : Nat) (H : Heap) (locs : List Loc) (ls : Array Slot) (m_z_rows : Int32) (m_z_columns : Int32), some (m_z_rows, m_z_columns) = some (n_z_rows, n_z_columns) → decode cX3_weigh pc = .ok (.return_, 1) → WD D A [(a_z, .inr (3, [.ref a_z_cells, .int z_places, .ref a_z_kinds, .ref a_z_figures, .ref a_z_longings, .ref a_z_seas, .int z_hands, .int z_aboard, .int z_ship, .int z_day, .int m_z_rows, .int m_z_columns])), (a_z_cells, .inl (cI, 6, .inl z_cells)), (a_z_kinds, .inl (cI, 7, .inl z_kinds)), (a_z_figures, .inl (cI, 7, .inl z_figures)), (a_z_longings, .inl (cI, 7, .inl z_longings)), (a_z_seas, .inl (cI, 7, .inl z_seas))] H → va_S A s.heap H locs → W p l e rmX3_weigh s m args below meth c H locs 0 0 Q (F0 m pc ls []) := by
    intro pc H locs ls m_z_rows m_z_columns h hd hP hS
    cases h
    exact hret0 pc H locs ls hd hP hS
  have L12 : ∀ (n : Nat) (x1_L12 : Int32) (z_rows_L12 : Int32) (z_columns_L12 : Int32) (tt0 : Int32) (tt1 : Int32) (H : Heap) (locs : List Loc) (ls : Array Slot), fX3_weigh_L12 g z_hands z_aboard z_ship z_cells z_kinds z_figures z_longings z_seas n x1_L12 z_rows_L12 z_columns_L12 = some (tt0, tt1) → WD D A [(a_z, .inr (3, [.ref a_z_cells, .int z_places, .ref a_z_kinds, .ref a_z_figures, .ref a_z_longings, .ref a_z_seas, .int z_hands, .int z_aboard, .int z_ship, .int z_day, .int z_rows_L12, .int z_columns_L12])), (a_z_cells, .inl (cI, 6, .inl z_cells)), (a_z_kinds, .inl (cI, 7, .inl z_kinds)), (a_z_figures, .inl (cI, 7, .inl z_figures)), (a_z_longings, .inl (cI, 7, .inl z_longings)), (a_z_seas, .inl (cI, 7, .inl z_seas))] H → va_S A s.heap H locs → lv_has ls 5 [(0, .ref a_z), (1, .int x1_L12)] → (∀ (H : Heap) (locs : List Loc) (ls : Array Slot), WD D A [(a_z, .inr (3, [.ref a_z_cells, .int z_places, .ref a_z_kinds, .ref a_z_figures, .ref a_z_longings, .ref a_z_seas, .int z_hands, .int z_aboard, .int z_ship, .int z_day, .int tt0, .int tt1])), (a_z_cells, .inl (cI, 6, .inl z_cells)), (a_z_kinds, .inl (cI, 7, .inl z_kinds)), (a_z_figures, .inl (cI, 7, .inl z_figures)), (a_z_longings, .inl (cI, 7, .inl z_longings)), (a_z_seas, .inl (cI, 7, .inl z_seas))] H → va_S A s.heap H locs → lv_has ls 5 [] → W p l e rmX3_weigh s m args below meth c H locs 0 0 Q (F0 m 96 ls [])) → W p l e rmX3_weigh s m args below meth c H locs 0 0 Q (F0 m 12 ls []) := by
    intro n
    induction n with
    | zero =>
      intro x1_L12 z_rows_L12 z_columns_L12 tt0 tt1 H locs ls h
      exact (no_some h).elim
    | succ n ih =>
      intro x1_L12 z_rows_L12 z_columns_L12 tt0 tt1 H locs ls h hP hS hl kE
      have h : fX3_weigh_L12_b g z_hands z_aboard z_ship z_cells z_kinds z_figures z_longings z_seas (fX3_weigh_L12 g z_hands z_aboard z_ship z_cells z_kinds z_figures z_longings z_seas n) x1_L12 z_rows_L12 z_columns_L12 = some (tt0, tt1) := h
      unfold fX3_weigh_L12_b at h
      refine lv_iload_n hx hb dX3_weigh_12 rfl (lv_at hl 1 rfl) ?_
      refine lv_aload_n hx hb dX3_weigh_13 rfl (lv_at hl 0 rfl) ?_
      refine gt_X3_31 F iX3 (List.mem_cons_of_mem _ (List.mem_append_left _ (List.mem_append_left _ (List.mem_of_getElem? (i := 2) rfl)))) hP 0 rfl dX3_weigh_14 ?_
      refine lv_icmp_ge (tgt := 96) hx hb dX3_weigh_17 (by decide) (fun hc3 => ?_) (fun hc3 => ?_)
      · have h := it_p hc3 h
        cases h
        exact kE H locs ls hP hS (lv_sub hl [] rfl)
      · have h := it_n hc3 h
        refine lv_aload_n hx hb dX3_weigh_20 rfl (lv_at hl 0 rfl) ?_
        refine lv_iload_n hx hb dX3_weigh_21 rfl (lv_at hl 1 rfl) ?_
        obtain ⟨r4, hk5, h⟩ := bd1_e h
        refine cV_i (rest := []) F (kX3_isAboard l D cI cJ H.size g a_z a_z_cells a_z_kinds a_z_figures a_z_longings a_z_seas z_places z_hands z_aboard z_ship z_day z_rows_L12 z_columns_L12 x1_L12 r4 hk5) (cwV 1 hts gX3_weigh_X3_isAboard rfl rfl rfl eVX3_isAboard ⟨Nat.le_of_ble_eq_true rfl, Nat.le_of_ble_eq_true rfl⟩) [0] hP hS (by decide) rfl rfl 0 rfl rfl rfl hl.1 (Nat.le_of_ble_eq_true rfl) ⟨Nat.le_refl _, Nat.le_refl _⟩ rfl dX3_weigh_22 (fun H locs hP hS => ?_)
        have hP : WD D A [(a_z, .inr (3, [.ref a_z_cells, .int z_places, .ref a_z_kinds, .ref a_z_figures, .ref a_z_longings, .ref a_z_seas, .int z_hands, .int z_aboard, .int z_ship, .int z_day, .int z_rows_L12, .int z_columns_L12])), (a_z_cells, .inl (cI, 6, .inl z_cells)), (a_z_kinds, .inl (cI, 7, .inl z_kinds)), (a_z_figures, .inl (cI, 7, .inl z_figures)), (a_z_longings, .inl (cI, 7, .inl z_longings)), (a_z_seas, .inl (cI, 7, .inl z_seas))] H := hP
        refine lv_if_eq (tgt := 90) hx hb dX3_weigh_25 (by decide) (fun hc6 => ?_) (fun hc6 => ?_)
        · have h := it_p hc6 h
          refine lv_iinc (v := x1_L12 + 1) (lv' := [(1, .int (x1_L12 + 1)), (0, .ref a_z)]) hx hb dX3_weigh_90 hl (k := 1) rfl rfl (by decide) rfl (fun ls hl => ?_)
          refine lv_goto (tgt := 12) hx hb dX3_weigh_93 (by decide) ?_
          exact ih (x1_L12 + 1) z_rows_L12 z_columns_L12 tt0 tt1 H locs ls h hP hS (lv_sub hl [1, 0] rfl) kE
        · have h := it_n hc6 h
          refine lv_aload_n hx hb dX3_weigh_28 rfl (lv_at hl 0 rfl) ?_
          refine lv_iload_n hx hb dX3_weigh_29 rfl (lv_at hl 1 rfl) ?_
          obtain ⟨r7, hk8, h⟩ := bd1_e h
          refine cV_i (rest := []) F (kX3_rowsTo l D cI cJ H.size g a_z a_z_cells a_z_kinds a_z_figures a_z_longings a_z_seas z_places z_hands z_aboard z_ship z_day z_rows_L12 z_columns_L12 z_cells z_longings x1_L12 r7 hk8) (cwV 1 hts gX3_weigh_X3_rowsTo rfl rfl rfl eVX3_rowsTo ⟨Nat.le_of_ble_eq_true rfl, Nat.le_of_ble_eq_true rfl⟩) [0, 1, 4] hP hS (by decide) rfl rfl 0 rfl rfl rfl hl.1 (Nat.le_of_ble_eq_true rfl) ⟨Nat.le_refl _, Nat.le_refl _⟩ rfl dX3_weigh_30 (fun H locs hP hS => ?_)
          have hP : WD D A [(a_z, .inr (3, [.ref a_z_cells, .int z_places, .ref a_z_kinds, .ref a_z_figures, .ref a_z_longings, .ref a_z_seas, .int z_hands, .int z_aboard, .int z_ship, .int z_day, .int z_rows_L12, .int z_columns_L12])), (a_z_cells, .inl (cI, 6, .inl z_cells)), (a_z_kinds, .inl (cI, 7, .inl z_kinds)), (a_z_figures, .inl (cI, 7, .inl z_figures)), (a_z_longings, .inl (cI, 7, .inl z_longings)), (a_z_seas, .inl (cI, 7, .inl z_seas))] H := hP
          refine lv_istore_n (lv' := [(2, .int r7), (0, .ref a_z), (1, .int x1_L12)]) hx hb dX3_weigh_33 rfl hl (by decide) rfl (fun ls hl => ?_)
          refine lv_aload_n hx hb dX3_weigh_34 rfl (lv_at hl 1 rfl) ?_
          refine lv_iload_n hx hb dX3_weigh_35 rfl (lv_at hl 2 rfl) ?_
          obtain ⟨r9, hk10, h⟩ := bd1_e h
          refine cV_i (rest := []) F (kX3_columnsTo l D cI cJ H.size g a_z a_z_cells a_z_kinds a_z_figures a_z_longings a_z_seas z_places z_hands z_aboard z_ship z_day z_rows_L12 z_columns_L12 z_cells z_longings x1_L12 r9 hk10) (cwV 1 hts gX3_weigh_X3_columnsTo rfl rfl rfl eVX3_columnsTo ⟨Nat.le_of_ble_eq_true rfl, Nat.le_of_ble_eq_true rfl⟩) [0, 1, 4] hP hS (by decide) rfl rfl 0 rfl rfl rfl hl.1 (Nat.le_of_ble_eq_true rfl) ⟨Nat.le_refl _, Nat.le_refl _⟩ rfl dX3_weigh_36 (fun H locs hP hS => ?_)
          have hP : WD D A [(a_z, .inr (3, [.ref a_z_cells, .int z_places, .ref a_z_kinds, .ref a_z_figures, .ref a_z_longings, .ref a_z_seas, .int z_hands, .int z_aboard, .int z_ship, .int z_day, .int z_rows_L12, .int z_columns_L12])), (a_z_cells, .inl (cI, 6, .inl z_cells)), (a_z_kinds, .inl (cI, 7, .inl z_kinds)), (a_z_figures, .inl (cI, 7, .inl z_figures)), (a_z_longings, .inl (cI, 7, .inl z_longings)), (a_z_seas, .inl (cI, 7, .inl z_seas))] H := hP
          refine lv_istore_n (lv' := [(3, .int r9), (2, .int r7), (0, .ref a_z), (1, .int x1_L12)]) hx hb dX3_weigh_39 rfl hl (by decide) rfl (fun ls hl => ?_)
          refine lv_aload_n hx hb dX3_weigh_40 rfl (lv_at hl 2 rfl) ?_
          refine lv_iload_n hx hb dX3_weigh_41 rfl (lv_at hl 3 rfl) ?_
          refine lv_iload_n hx hb dX3_weigh_42 rfl (lv_at hl 1 rfl) ?_
          refine r_mabs F hl.1 (List.mem_cons_of_mem _ (List.mem_append_left _ (List.mem_append_left _ (List.mem_of_getElem? (i := 3) rfl)))) (List.mem_cons_of_mem _ (List.mem_append_left _ (List.mem_append_left _ (List.mem_of_getElem? (i := 4) rfl)))) (List.mem_cons_of_mem _ (List.mem_append_left _ (List.mem_append_left _ (List.mem_of_getElem? (i := 5) rfl)))) (List.mem_cons_of_mem _ (List.mem_append_left _ (List.mem_append_left _ (List.mem_of_getElem? (i := 6) rfl)))) (Nat.le_of_ble_eq_true rfl) (Nat.le_of_ble_eq_true rfl) ⟨Nat.le_refl _, Nat.le_refl _⟩ dX3_weigh_43 ?_
          refine lv_iload_n hx hb dX3_weigh_46 rfl (lv_at hl 0 rfl) ?_
          refine r_mabs F hl.1 (List.mem_cons_of_mem _ (List.mem_append_left _ (List.mem_append_left _ (List.mem_of_getElem? (i := 3) rfl)))) (List.mem_cons_of_mem _ (List.mem_append_left _ (List.mem_append_left _ (List.mem_of_getElem? (i := 4) rfl)))) (List.mem_cons_of_mem _ (List.mem_append_left _ (List.mem_append_left _ (List.mem_of_getElem? (i := 5) rfl)))) (List.mem_cons_of_mem _ (List.mem_append_left _ (List.mem_append_left _ (List.mem_of_getElem? (i := 6) rfl)))) (Nat.le_of_ble_eq_true rfl) (Nat.le_of_ble_eq_true rfl) ⟨Nat.le_refl _, Nat.le_refl _⟩ dX3_weigh_47 ?_
          refine lv_iadd hx hb dX3_weigh_50 ?_
          obtain ⟨r11, hk12, h⟩ := bd1_e h
          refine cV_i (rest := []) F (kX3_leanOf l D cI cJ H.size g a_z a_z_cells a_z_kinds a_z_figures a_z_longings a_z_seas z_places z_hands z_aboard z_ship z_day z_rows_L12 z_columns_L12 z_kinds z_figures z_seas x1_L12 ((if 0 ≤ r7 then r7 else 0 - r7) + (if 0 ≤ r9 then r9 else 0 - r9)) r11 hk12) (cwV 2 hts gX3_weigh_X3_leanOf rfl rfl rfl eVX3_leanOf ⟨Nat.le_of_ble_eq_true rfl, Nat.le_of_ble_eq_true rfl⟩) [0, 2, 3, 5] hP hS (by decide) rfl rfl 0 rfl rfl rfl hl.1 (Nat.le_of_ble_eq_true rfl) ⟨Nat.le_refl _, Nat.le_refl _⟩ rfl dX3_weigh_51 (fun H locs hP hS => ?_)
          have hP : WD D A [(a_z, .inr (3, [.ref a_z_cells, .int z_places, .ref a_z_kinds, .ref a_z_figures, .ref a_z_longings, .ref a_z_seas, .int z_hands, .int z_aboard, .int z_ship, .int z_day, .int z_rows_L12, .int z_columns_L12])), (a_z_cells, .inl (cI, 6, .inl z_cells)), (a_z_kinds, .inl (cI, 7, .inl z_kinds)), (a_z_figures, .inl (cI, 7, .inl z_figures)), (a_z_longings, .inl (cI, 7, .inl z_longings)), (a_z_seas, .inl (cI, 7, .inl z_seas))] H := hP
          refine lv_istore (lv' := [(4, .int r11), (3, .int r9), (2, .int r7), (0, .ref a_z), (1, .int x1_L12)]) hx hb dX3_weigh_54 hl (by decide) rfl (fun ls hl => ?_)
          refine lv_aload_n hx hb dX3_weigh_56 rfl (lv_at hl 3 rfl) ?_
          refine lv_dup hx hb dX3_weigh_57 rfl ?_
          refine gt_X3_77 F iX3 (List.mem_cons_of_mem _ (List.mem_append_left _ (List.mem_append_left _ (List.mem_of_getElem? (i := 0) rfl)))) hP 0 rfl dX3_weigh_58 ?_
          refine lv_iload hx hb dX3_weigh_61 (lv_at hl 0 rfl) ?_
          refine lv_iload_n hx hb dX3_weigh_63 rfl (lv_at hl 2 rfl) ?_
          refine lv_iconst (v := 0) hx hb dX3_weigh_64 (by decide) ?_
          obtain ⟨r13, hk14, h⟩ := bd1_e h
          refine cS_i (rest := [.int r11, .int z_rows_L12, .ref a_z]) F (kJ6_compare_7cf53 l D cI cJ H.size g r7 0 r13 hk14) (va_cwS 2 hts gX3_weigh_J6_compare_7cf53 rfl rfl rfl eSJ6_compare_7cf53 ⟨Nat.le_of_ble_eq_true rfl, Nat.le_of_ble_eq_true rfl⟩) [] hP hS (by decide) rfl rfl rfl hl.1 (Nat.le_of_ble_eq_true rfl) ⟨Nat.le_refl _, Nat.le_refl _⟩ rfl dX3_weigh_65 (fun H locs hP hS => ?_)
          have hP : WD D A [(a_z, .inr (3, [.ref a_z_cells, .int z_places, .ref a_z_kinds, .ref a_z_figures, .ref a_z_longings, .ref a_z_seas, .int z_hands, .int z_aboard, .int z_ship, .int z_day, .int z_rows_L12, .int z_columns_L12])), (a_z_cells, .inl (cI, 6, .inl z_cells)), (a_z_kinds, .inl (cI, 7, .inl z_kinds)), (a_z_figures, .inl (cI, 7, .inl z_figures)), (a_z_longings, .inl (cI, 7, .inl z_longings)), (a_z_seas, .inl (cI, 7, .inl z_seas))] H := hP
          refine lv_imul hx hb dX3_weigh_68 ?_
          refine lv_iadd hx hb dX3_weigh_69 ?_
          refine pt_X3_77 F iX3 (List.mem_cons_of_mem _ (List.mem_append_left _ (List.mem_append_left _ (List.mem_of_getElem? (i := 0) rfl)))) hP hS 0 rfl dX3_weigh_70 (fun H locs hP hS => ?_)
          have hP : WD D A [(a_z, .inr (3, [.ref a_z_cells, .int z_places, .ref a_z_kinds, .ref a_z_figures, .ref a_z_longings, .ref a_z_seas, .int z_hands, .int z_aboard, .int z_ship, .int z_day, .int (z_rows_L12 + (r11 * r13)), .int z_columns_L12])), (a_z_cells, .inl (cI, 6, .inl z_cells)), (a_z_kinds, .inl (cI, 7, .inl z_kinds)), (a_z_figures, .inl (cI, 7, .inl z_figures)), (a_z_longings, .inl (cI, 7, .inl z_longings)), (a_z_seas, .inl (cI, 7, .inl z_seas))] H := hP
          refine lv_aload_n hx hb dX3_weigh_73 rfl (lv_at hl 3 rfl) ?_
          refine lv_dup hx hb dX3_weigh_74 rfl ?_
          refine gt_X3_80 F iX3 (List.mem_cons_of_mem _ (List.mem_append_left _ (List.mem_append_left _ (List.mem_of_getElem? (i := 1) rfl)))) hP 0 rfl dX3_weigh_75 ?_
          refine lv_iload hx hb dX3_weigh_78 (lv_at hl 0 rfl) ?_
          refine lv_iload_n hx hb dX3_weigh_80 rfl (lv_at hl 1 rfl) ?_
          refine lv_iconst (v := 0) hx hb dX3_weigh_81 (by decide) ?_
          obtain ⟨r15, hk16, h⟩ := bd1_e h
          refine cS_i (rest := [.int r11, .int z_columns_L12, .ref a_z]) F (kJ6_compare_7cf53 l D cI cJ H.size g r9 0 r15 hk16) (va_cwS 2 hts gX3_weigh_J6_compare_7cf53 rfl rfl rfl eSJ6_compare_7cf53 ⟨Nat.le_of_ble_eq_true rfl, Nat.le_of_ble_eq_true rfl⟩) [] hP hS (by decide) rfl rfl rfl hl.1 (Nat.le_of_ble_eq_true rfl) ⟨Nat.le_refl _, Nat.le_refl _⟩ rfl dX3_weigh_82 (fun H locs hP hS => ?_)
          have hP : WD D A [(a_z, .inr (3, [.ref a_z_cells, .int z_places, .ref a_z_kinds, .ref a_z_figures, .ref a_z_longings, .ref a_z_seas, .int z_hands, .int z_aboard, .int z_ship, .int z_day, .int (z_rows_L12 + (r11 * r13)), .int z_columns_L12])), (a_z_cells, .inl (cI, 6, .inl z_cells)), (a_z_kinds, .inl (cI, 7, .inl z_kinds)), (a_z_figures, .inl (cI, 7, .inl z_figures)), (a_z_longings, .inl (cI, 7, .inl z_longings)), (a_z_seas, .inl (cI, 7, .inl z_seas))] H := hP
          refine lv_imul hx hb dX3_weigh_85 ?_
          refine lv_iadd hx hb dX3_weigh_86 ?_
          refine pt_X3_80 F iX3 (List.mem_cons_of_mem _ (List.mem_append_left _ (List.mem_append_left _ (List.mem_of_getElem? (i := 1) rfl)))) hP hS 0 rfl dX3_weigh_87 (fun H locs hP hS => ?_)
          have hP : WD D A [(a_z, .inr (3, [.ref a_z_cells, .int z_places, .ref a_z_kinds, .ref a_z_figures, .ref a_z_longings, .ref a_z_seas, .int z_hands, .int z_aboard, .int z_ship, .int z_day, .int (z_rows_L12 + (r11 * r13)), .int (z_columns_L12 + (r11 * r15))])), (a_z_cells, .inl (cI, 6, .inl z_cells)), (a_z_kinds, .inl (cI, 7, .inl z_kinds)), (a_z_figures, .inl (cI, 7, .inl z_figures)), (a_z_longings, .inl (cI, 7, .inl z_longings)), (a_z_seas, .inl (cI, 7, .inl z_seas))] H := hP
          refine lv_iinc (v := x1_L12 + 1) (lv' := [(1, .int (x1_L12 + 1)), (4, .int r11), (3, .int r9), (2, .int r7), (0, .ref a_z)]) hx hb dX3_weigh_90 hl (k := 4) rfl rfl (by decide) rfl (fun ls hl => ?_)
          refine lv_goto (tgt := 12) hx hb dX3_weigh_93 (by decide) ?_
          exact ih (x1_L12 + 1) (z_rows_L12 + (r11 * r13)) (z_columns_L12 + (r11 * r15)) tt0 tt1 H locs ls h hP hS (lv_sub hl [4, 0] rfl) kE
  have hl : lv_has ls 5 [(0, .ref a_z)] := hl
  have h := hf
  unfold fX3_weigh at h
  refine lv_aload_n hx hb dX3_weigh_0 rfl (lv_at hl 0 rfl) ?_
  refine lv_iconst (v := 0) hx hb dX3_weigh_1 (by decide) ?_
  refine pt_X3_77 F iX3 (List.mem_cons_of_mem _ (List.mem_append_left _ (List.mem_append_left _ (List.mem_of_getElem? (i := 0) rfl)))) hP hS 0 rfl dX3_weigh_2 (fun H locs hP hS => ?_)
  have hP : WD D A [(a_z, .inr (3, [.ref a_z_cells, .int z_places, .ref a_z_kinds, .ref a_z_figures, .ref a_z_longings, .ref a_z_seas, .int z_hands, .int z_aboard, .int z_ship, .int z_day, .int 0, .int z_columns])), (a_z_cells, .inl (cI, 6, .inl z_cells)), (a_z_kinds, .inl (cI, 7, .inl z_kinds)), (a_z_figures, .inl (cI, 7, .inl z_figures)), (a_z_longings, .inl (cI, 7, .inl z_longings)), (a_z_seas, .inl (cI, 7, .inl z_seas))] H := hP
  refine lv_aload_n hx hb dX3_weigh_5 rfl (lv_at hl 0 rfl) ?_
  refine lv_iconst (v := 0) hx hb dX3_weigh_6 (by decide) ?_
  refine pt_X3_80 F iX3 (List.mem_cons_of_mem _ (List.mem_append_left _ (List.mem_append_left _ (List.mem_of_getElem? (i := 1) rfl)))) hP hS 0 rfl dX3_weigh_7 (fun H locs hP hS => ?_)
  have hP : WD D A [(a_z, .inr (3, [.ref a_z_cells, .int z_places, .ref a_z_kinds, .ref a_z_figures, .ref a_z_longings, .ref a_z_seas, .int z_hands, .int z_aboard, .int z_ship, .int z_day, .int 0, .int 0])), (a_z_cells, .inl (cI, 6, .inl z_cells)), (a_z_kinds, .inl (cI, 7, .inl z_kinds)), (a_z_figures, .inl (cI, 7, .inl z_figures)), (a_z_longings, .inl (cI, 7, .inl z_longings)), (a_z_seas, .inl (cI, 7, .inl z_seas))] H := hP
  refine lv_iconst (v := 0) hx hb dX3_weigh_10 (by decide) ?_
  refine lv_istore_n (lv' := [(1, .int 0), (0, .ref a_z)]) hx hb dX3_weigh_11 rfl hl (by decide) rfl (fun ls hl => ?_)
  obtain ⟨t17, t18, hk19, h⟩ := bd2_e h
  refine L12 g 0 0 0 t17 t18 H locs ls hk19 hP hS (lv_sub hl [1, 0] rfl) (fun H locs ls hP hS hl => ?_)
  exact hret 96 H locs ls t17 t18 h dX3_weigh_96 hP hS
theorem eSX3_course : yX3_course.cls ≠ "java/lang/invoke/MethodHandle" ∧ yX3_course.cls ≠ "java/lang/invoke/VarHandle" ∧ (parseMethodDescriptor yX3_course.desc).map (fun d => d.parameters.length) = some 0 := by decide +kernel
theorem eVX3_course : yX3_course.cls = RX3 ∧ yX3_course.cls ≠ "java/lang/invoke/MethodHandle" ∧ yX3_course.cls ≠ "java/lang/invoke/VarHandle" ∧ (parseMethodDescriptor yX3_course.desc).map (fun d => d.parameters.length) = some 0 := ⟨rfl, eSX3_course⟩
abbrev rmX3_course : Room := { frames := 1, cells := 0, slots := 0, locals := 14 }
def fX3_course (g : Nat) (z_rows : Int32) (z_columns : Int32) : Option (Int32) := if (if 0 ≤ z_rows then z_rows else 0 - z_rows) ≤ (if 0 ≤ z_columns then z_columns else 0 - z_columns) then (if z_columns = 0 then (some (-9)) else (if z_columns ≤ 0 then (some 3) else (some 1))) else (if 0 ≤ z_rows then (some 2) else (some 0))
set_option maxHeartbeats 4000000 in
set_option maxRecDepth 100000 in
theorem kX3_course (l : Launch) (D : va_G) (cI cJ : ClassId) (sz g : Nat) (a_z a_z_cells a_z_kinds a_z_figures a_z_longings a_z_seas : Nat) (z_places : Int32) (z_hands : Int32) (z_aboard : Int32) (z_ship : Int32) (z_day : Int32) (z_rows : Int32) (z_columns : Int32) (r : Int32) (hf : fX3_course g z_rows z_columns = some r) : Met l yX3_course wsX3_course rmX3_course (va_Pc [.ref a_z] (sPc D (tyL cI cJ) [(a_z, .inr (3, [.ref a_z_cells, .int z_places, .ref a_z_kinds, .ref a_z_figures, .ref a_z_longings, .ref a_z_seas, .int z_hands, .int z_aboard, .int z_ship, .int z_day, .int z_rows, .int z_columns]))] sz)) (qI D (tyL cI cJ) [(a_z, .inr (3, [.ref a_z_cells, .int z_places, .ref a_z_kinds, .ref a_z_figures, .ref a_z_longings, .ref a_z_seas, .int z_hands, .int z_aboard, .int z_ship, .int z_day, .int z_rows, .int z_columns]))] sz [(a_z, .inr (3, [.ref a_z_cells, .int z_places, .ref a_z_kinds, .ref a_z_figures, .ref a_z_longings, .ref a_z_seas, .int z_hands, .int z_aboard, .int z_ship, .int z_day, .int z_rows, .int z_columns]))] r) 0 0 (va_A [(a_z, .inr (3, [.ref a_z_cells, .int z_places, .ref a_z_kinds, .ref a_z_figures, .ref a_z_longings, .ref a_z_seas, .int z_hands, .int z_aboard, .int z_ship, .int z_day, .int z_rows, .int z_columns]))] sz) := by
  refine st_i (cc := cX3_course) (maxL := 1) (by decide) rfl (Nat.le_of_ble_eq_true rfl) ?_
  intro p e s m args below meth c A Q F hret0 H locs hP hS ls hl
  have F : Cx p s m args c cX3_course 1 wsX3_course RX3 D (tyL cI cJ) A := F
  have hx := F.1.1
  have hb := F.1.2.1
  have hown := F.1.2.2.2.1
  have hts := F.1.2.2.2.2
  have iX3 : ∀ w ∈ wsX30, w ∈ wsX3_course := fun w h => (List.mem_cons_of_mem _ (List.mem_append_right _ h))
  have hret : ∀ (pc : Nat) (H : Heap) (locs : List Loc) (ls : Array Slot) (r' : Int32), some r' = some r → narrow .int (.int r') = .int r' → decode cX3_course pc = .ok (.ireturn, 1) → WD D A [(a_z, .inr (3, [.ref a_z_cells, .int z_places, .ref a_z_kinds, .ref a_z_figures, .ref a_z_longings, .ref a_z_seas, .int z_hands, .int z_aboard, .int z_ship, .int z_day, .int z_rows, .int z_columns]))] H → va_S A s.heap H locs → W p l e rmX3_course s m args below meth c H locs 0 0 Q (F0 m pc ls [.int r']) := by
    intro pc H locs ls r' h hn hd hP hS
    cases h
    exact hret0 pc H locs ls hn hd hP hS
  have hl : lv_has ls 1 [(0, .ref a_z)] := hl
  have h := hf
  unfold fX3_course at h
  refine lv_aload_n hx hb dX3_course_0 rfl (lv_at hl 0 rfl) ?_
  refine gt_X3_77 F iX3 (List.mem_cons_of_mem _ (List.mem_append_left _ (List.mem_of_getElem? (i := 0) rfl))) hP 0 rfl dX3_course_1 ?_
  refine r_mabs F hl.1 (List.mem_cons_of_mem _ (List.mem_append_left _ (List.mem_of_getElem? (i := 1) rfl))) (List.mem_cons_of_mem _ (List.mem_append_left _ (List.mem_of_getElem? (i := 2) rfl))) (List.mem_cons_of_mem _ (List.mem_append_left _ (List.mem_of_getElem? (i := 3) rfl))) (List.mem_cons_of_mem _ (List.mem_append_left _ (List.mem_of_getElem? (i := 4) rfl))) (Nat.le_of_ble_eq_true rfl) (Nat.le_of_ble_eq_true rfl) ⟨Nat.le_refl _, Nat.le_refl _⟩ dX3_course_4 ?_
  refine lv_aload_n hx hb dX3_course_7 rfl (lv_at hl 0 rfl) ?_
  refine gt_X3_80 F iX3 (List.mem_cons_of_mem _ (List.mem_append_left _ (List.mem_of_getElem? (i := 5) rfl))) hP 0 rfl dX3_course_8 ?_
  refine r_mabs F hl.1 (List.mem_cons_of_mem _ (List.mem_append_left _ (List.mem_of_getElem? (i := 1) rfl))) (List.mem_cons_of_mem _ (List.mem_append_left _ (List.mem_of_getElem? (i := 2) rfl))) (List.mem_cons_of_mem _ (List.mem_append_left _ (List.mem_of_getElem? (i := 3) rfl))) (List.mem_cons_of_mem _ (List.mem_append_left _ (List.mem_of_getElem? (i := 4) rfl))) (Nat.le_of_ble_eq_true rfl) (Nat.le_of_ble_eq_true rfl) ⟨Nat.le_refl _, Nat.le_refl _⟩ dX3_course_11 ?_
  refine lv_icmp_le (tgt := 30) hx hb dX3_course_14 (by decide) (fun hc5 => ?_) (fun hc5 => ?_)
  · have h := it_p hc5 h
    refine lv_aload_n hx hb dX3_course_30 rfl (lv_at hl 0 rfl) ?_
    refine gt_X3_80 F iX3 (List.mem_cons_of_mem _ (List.mem_append_left _ (List.mem_of_getElem? (i := 5) rfl))) hP 0 rfl dX3_course_31 ?_
    refine lv_if_eq (tgt := 50) hx hb dX3_course_34 (by decide) (fun hc6 => ?_) (fun hc6 => ?_)
    · have h := it_p hc6 h
      refine lv_bipush (v := (-9)) hx hb dX3_course_50 (by decide) ?_
      exact hret 52 H locs ls (-9) h rfl dX3_course_52 hP hS
    · have h := it_n hc6 h
      refine lv_aload_n hx hb dX3_course_37 rfl (lv_at hl 0 rfl) ?_
      refine gt_X3_80 F iX3 (List.mem_cons_of_mem _ (List.mem_append_left _ (List.mem_of_getElem? (i := 5) rfl))) hP 0 rfl dX3_course_38 ?_
      refine lv_if_le (tgt := 48) hx hb dX3_course_41 (by decide) (fun hc7 => ?_) (fun hc7 => ?_)
      · have h := it_p hc7 h
        refine lv_iconst (v := 3) hx hb dX3_course_48 (by decide) ?_
        exact hret 49 H locs ls 3 h rfl dX3_course_49 hP hS
      · have h := it_n hc7 h
        refine lv_iconst (v := 1) hx hb dX3_course_44 (by decide) ?_
        refine lv_goto (tgt := 49) hx hb dX3_course_45 (by decide) ?_
        exact hret 49 H locs ls 1 h rfl dX3_course_49 hP hS
  · have h := it_n hc5 h
    refine lv_aload_n hx hb dX3_course_17 rfl (lv_at hl 0 rfl) ?_
    refine gt_X3_77 F iX3 (List.mem_cons_of_mem _ (List.mem_append_left _ (List.mem_of_getElem? (i := 0) rfl))) hP 0 rfl dX3_course_18 ?_
    refine lv_if_ge (tgt := 28) hx hb dX3_course_21 (by decide) (fun hc8 => ?_) (fun hc8 => ?_)
    · have h := it_p hc8 h
      refine lv_iconst (v := 2) hx hb dX3_course_28 (by decide) ?_
      exact hret 29 H locs ls 2 h rfl dX3_course_29 hP hS
    · have h := it_n hc8 h
      refine lv_iconst (v := 0) hx hb dX3_course_24 (by decide) ?_
      refine lv_goto (tgt := 29) hx hb dX3_course_25 (by decide) ?_
      exact hret 29 H locs ls 0 h rfl dX3_course_29 hP hS
theorem eSX3_points : yX3_points.cls ≠ "java/lang/invoke/MethodHandle" ∧ yX3_points.cls ≠ "java/lang/invoke/VarHandle" ∧ (parseMethodDescriptor yX3_points.desc).map (fun d => d.parameters.length) = some 0 := by decide +kernel
theorem eVX3_points : yX3_points.cls = RX3 ∧ yX3_points.cls ≠ "java/lang/invoke/MethodHandle" ∧ yX3_points.cls ≠ "java/lang/invoke/VarHandle" ∧ (parseMethodDescriptor yX3_points.desc).map (fun d => d.parameters.length) = some 0 := ⟨rfl, eSX3_points⟩
abbrev rmX3_points : Room := { frames := 2, cells := 0, slots := 0, locals := 47 }
def fX3_points (g : Nat) (z_hands : Int32) (z_aboard : Int32) (z_ship : Int32) (z_cells : Nat → Int32) (z_kinds : Nat → Int32) (z_figures : Nat → Int32) (z_longings : Nat → Int32) (z_seas : Nat → Int32) : Option (Int32 × Int32 × Int32) := bd2 (fX3_weigh g z_hands z_aboard z_ship z_cells z_kinds z_figures z_longings z_seas) fun z_rows_6 z_columns_7 => (bd1 (fX3_course g z_rows_6 z_columns_7) fun r9 => (some (r9, z_rows_6, z_columns_7)))
set_option maxHeartbeats 4000000 in
set_option maxRecDepth 100000 in
theorem kX3_points (l : Launch) (D : va_G) (cI cJ : ClassId) (sz g : Nat) (a_z a_z_cells a_z_kinds a_z_figures a_z_longings a_z_seas : Nat) (z_places : Int32) (z_hands : Int32) (z_aboard : Int32) (z_ship : Int32) (z_day : Int32) (z_rows : Int32) (z_columns : Int32) (z_cells : Nat → Int32) (z_kinds : Nat → Int32) (z_figures : Nat → Int32) (z_longings : Nat → Int32) (z_seas : Nat → Int32) (r : Int32) (n_z_rows : Int32) (n_z_columns : Int32) (hf : fX3_points g z_hands z_aboard z_ship z_cells z_kinds z_figures z_longings z_seas = some (r, n_z_rows, n_z_columns)) : Met l yX3_points wsX3_points rmX3_points (va_Pc [.ref a_z] (sPc D (tyL cI cJ) [(a_z, .inr (3, [.ref a_z_cells, .int z_places, .ref a_z_kinds, .ref a_z_figures, .ref a_z_longings, .ref a_z_seas, .int z_hands, .int z_aboard, .int z_ship, .int z_day, .int z_rows, .int z_columns])), (a_z_cells, .inl (cI, 6, .inl z_cells)), (a_z_kinds, .inl (cI, 7, .inl z_kinds)), (a_z_figures, .inl (cI, 7, .inl z_figures)), (a_z_longings, .inl (cI, 7, .inl z_longings)), (a_z_seas, .inl (cI, 7, .inl z_seas))] sz)) (qI D (tyL cI cJ) [(a_z, .inr (3, [.ref a_z_cells, .int z_places, .ref a_z_kinds, .ref a_z_figures, .ref a_z_longings, .ref a_z_seas, .int z_hands, .int z_aboard, .int z_ship, .int z_day, .int z_rows, .int z_columns])), (a_z_cells, .inl (cI, 6, .inl z_cells)), (a_z_kinds, .inl (cI, 7, .inl z_kinds)), (a_z_figures, .inl (cI, 7, .inl z_figures)), (a_z_longings, .inl (cI, 7, .inl z_longings)), (a_z_seas, .inl (cI, 7, .inl z_seas))] sz [(a_z, .inr (3, [.ref a_z_cells, .int z_places, .ref a_z_kinds, .ref a_z_figures, .ref a_z_longings, .ref a_z_seas, .int z_hands, .int z_aboard, .int z_ship, .int z_day, .int n_z_rows, .int n_z_columns])), (a_z_cells, .inl (cI, 6, .inl z_cells)), (a_z_kinds, .inl (cI, 7, .inl z_kinds)), (a_z_figures, .inl (cI, 7, .inl z_figures)), (a_z_longings, .inl (cI, 7, .inl z_longings)), (a_z_seas, .inl (cI, 7, .inl z_seas))] r) 0 0 (va_A [(a_z, .inr (3, [.ref a_z_cells, .int z_places, .ref a_z_kinds, .ref a_z_figures, .ref a_z_longings, .ref a_z_seas, .int z_hands, .int z_aboard, .int z_ship, .int z_day, .int z_rows, .int z_columns])), (a_z_cells, .inl (cI, 6, .inl z_cells)), (a_z_kinds, .inl (cI, 7, .inl z_kinds)), (a_z_figures, .inl (cI, 7, .inl z_figures)), (a_z_longings, .inl (cI, 7, .inl z_longings)), (a_z_seas, .inl (cI, 7, .inl z_seas))] sz) := by
  refine st_i (cc := cX3_points) (maxL := 1) (by decide) rfl (Nat.le_of_ble_eq_true rfl) ?_
  intro p e s m args below meth c A Q F hret0 H locs hP hS ls hl
  have F : Cx p s m args c cX3_points 1 wsX3_points RX3 D (tyL cI cJ) A := F
  have hx := F.1.1
  have hb := F.1.2.1
  have hown := F.1.2.2.2.1
  have hts := F.1.2.2.2.2
  have hret : ∀ (pc : Nat) (H : Heap) (locs : List Loc) (ls : Array Slot) (r' : Int32) (m_z_rows : Int32) (m_z_columns : Int32), some (r', m_z_rows, m_z_columns) = some (r, n_z_rows, n_z_columns) → narrow .int (.int r') = .int r' → decode cX3_points pc = .ok (.ireturn, 1) → WD D A [(a_z, .inr (3, [.ref a_z_cells, .int z_places, .ref a_z_kinds, .ref a_z_figures, .ref a_z_longings, .ref a_z_seas, .int z_hands, .int z_aboard, .int z_ship, .int z_day, .int m_z_rows, .int m_z_columns])), (a_z_cells, .inl (cI, 6, .inl z_cells)), (a_z_kinds, .inl (cI, 7, .inl z_kinds)), (a_z_figures, .inl (cI, 7, .inl z_figures)), (a_z_longings, .inl (cI, 7, .inl z_longings)), (a_z_seas, .inl (cI, 7, .inl z_seas))] H → va_S A s.heap H locs → W p l e rmX3_points s m args below meth c H locs 0 0 Q (F0 m pc ls [.int r']) := by
    intro pc H locs ls r' m_z_rows m_z_columns h hn hd hP hS
    cases h
    exact hret0 pc H locs ls hn hd hP hS
  have hl : lv_has ls 1 [(0, .ref a_z)] := hl
  have h := hf
  unfold fX3_points at h
  refine lv_aload_n hx hb dX3_points_0 rfl (lv_at hl 0 rfl) ?_
  obtain ⟨z_rows_6, z_columns_7, hk8, h⟩ := bd2_e h
  refine cV_v (rest := []) F (kX3_weigh l D cI cJ H.size g a_z a_z_cells a_z_kinds a_z_figures a_z_longings a_z_seas z_places z_hands z_aboard z_ship z_day z_rows z_columns z_cells z_kinds z_figures z_longings z_seas z_rows_6 z_columns_7 hk8) (cwV 0 hts gX3_points_X3_weigh rfl rfl rfl eVX3_weigh ⟨Nat.le_of_ble_eq_true rfl, Nat.le_of_ble_eq_true rfl⟩) [0, 1, 2, 3, 4, 5] hP hS (by decide) rfl rfl 0 rfl rfl rfl hl.1 (Nat.le_of_ble_eq_true rfl) ⟨Nat.le_refl _, Nat.le_refl _⟩ rfl dX3_points_1 (fun H locs hP hS => ?_)
  have hP : WD D A [(a_z, .inr (3, [.ref a_z_cells, .int z_places, .ref a_z_kinds, .ref a_z_figures, .ref a_z_longings, .ref a_z_seas, .int z_hands, .int z_aboard, .int z_ship, .int z_day, .int z_rows_6, .int z_columns_7])), (a_z_cells, .inl (cI, 6, .inl z_cells)), (a_z_kinds, .inl (cI, 7, .inl z_kinds)), (a_z_figures, .inl (cI, 7, .inl z_figures)), (a_z_longings, .inl (cI, 7, .inl z_longings)), (a_z_seas, .inl (cI, 7, .inl z_seas))] H := hP
  refine lv_aload_n hx hb dX3_points_4 rfl (lv_at hl 0 rfl) ?_
  obtain ⟨r9, hk10, h⟩ := bd1_e h
  refine cV_i (rest := []) F (kX3_course l D cI cJ H.size g a_z a_z_cells a_z_kinds a_z_figures a_z_longings a_z_seas z_places z_hands z_aboard z_ship z_day z_rows_6 z_columns_7 r9 hk10) (cwV 0 hts gX3_points_X3_course rfl rfl rfl eVX3_course ⟨Nat.le_of_ble_eq_true rfl, Nat.le_of_ble_eq_true rfl⟩) [0] hP hS (by decide) rfl rfl 0 rfl rfl rfl hl.1 (Nat.le_of_ble_eq_true rfl) ⟨Nat.le_refl _, Nat.le_refl _⟩ rfl dX3_points_5 (fun H locs hP hS => ?_)
  have hP : WD D A [(a_z, .inr (3, [.ref a_z_cells, .int z_places, .ref a_z_kinds, .ref a_z_figures, .ref a_z_longings, .ref a_z_seas, .int z_hands, .int z_aboard, .int z_ship, .int z_day, .int z_rows_6, .int z_columns_7])), (a_z_cells, .inl (cI, 6, .inl z_cells)), (a_z_kinds, .inl (cI, 7, .inl z_kinds)), (a_z_figures, .inl (cI, 7, .inl z_figures)), (a_z_longings, .inl (cI, 7, .inl z_longings)), (a_z_seas, .inl (cI, 7, .inl z_seas))] H := hP
  exact hret 8 H locs ls r9 z_rows_6 z_columns_7 h rfl dX3_points_8 hP hS
theorem eSX4_columnOf : yX4_columnOf.cls ≠ "java/lang/invoke/MethodHandle" ∧ yX4_columnOf.cls ≠ "java/lang/invoke/VarHandle" ∧ (parseMethodDescriptor yX4_columnOf.desc).map (fun d => d.parameters.length) = some 1 := by decide +kernel
theorem eVX4_columnOf : yX4_columnOf.cls = RX4 ∧ yX4_columnOf.cls ≠ "java/lang/invoke/MethodHandle" ∧ yX4_columnOf.cls ≠ "java/lang/invoke/VarHandle" ∧ (parseMethodDescriptor yX4_columnOf.desc).map (fun d => d.parameters.length) = some 1 := ⟨rfl, eSX4_columnOf⟩
abbrev rmX4_columnOf : Room := { frames := 0, cells := 0, slots := 0, locals := 0 }
def fX4_columnOf (g : Nat) (p0 : Int32) : Option (Int32) := some (p0 - p0 / 8 * 8)
set_option maxHeartbeats 4000000 in
set_option maxRecDepth 100000 in
theorem kX4_columnOf (l : Launch) (D : va_G) (cI cJ : ClassId) (sz g : Nat) (p0 : Int32) (r : Int32) (hf : fX4_columnOf g p0 = some r) : Met l yX4_columnOf wsX4_columnOf rmX4_columnOf (va_Pc [.int p0] (sPc D (tyL cI cJ) [] sz)) (qI D (tyL cI cJ) [] sz [] r) 0 0 (va_A [] sz) := by
  refine st_i (cc := cX4_columnOf) (maxL := 1) (by decide) rfl (Nat.le_of_ble_eq_true rfl) ?_
  intro p e s m args below meth c A Q F hret0 H locs hP hS ls hl
  have F : Cx p s m args c cX4_columnOf 1 wsX4_columnOf RX4 D (tyL cI cJ) A := F
  have hx := F.1.1
  have hb := F.1.2.1
  have hown := F.1.2.2.2.1
  have hts := F.1.2.2.2.2
  have hret : ∀ (pc : Nat) (H : Heap) (locs : List Loc) (ls : Array Slot) (r' : Int32), some r' = some r → narrow .int (.int r') = .int r' → decode cX4_columnOf pc = .ok (.ireturn, 1) → WD D A [] H → va_S A s.heap H locs → W p l e rmX4_columnOf s m args below meth c H locs 0 0 Q (F0 m pc ls [.int r']) := by
    intro pc H locs ls r' h hn hd hP hS
    cases h
    exact hret0 pc H locs ls hn hd hP hS
  have hl : lv_has ls 1 [(0, .int p0)] := hl
  have h := hf
  unfold fX4_columnOf at h
  refine lv_iload_n hx hb dX4_columnOf_0 rfl (lv_at hl 0 rfl) ?_
  refine lv_bipush (v := 8) hx hb dX4_columnOf_1 (by decide) ?_
  refine lv_irem hx hb dX4_columnOf_3 (by decide) ?_
  exact hret 4 H locs ls (p0 - p0 / 8 * 8) h rfl dX4_columnOf_4 hP hS
theorem eSX4_rowOf : yX4_rowOf.cls ≠ "java/lang/invoke/MethodHandle" ∧ yX4_rowOf.cls ≠ "java/lang/invoke/VarHandle" ∧ (parseMethodDescriptor yX4_rowOf.desc).map (fun d => d.parameters.length) = some 1 := by decide +kernel
theorem eVX4_rowOf : yX4_rowOf.cls = RX4 ∧ yX4_rowOf.cls ≠ "java/lang/invoke/MethodHandle" ∧ yX4_rowOf.cls ≠ "java/lang/invoke/VarHandle" ∧ (parseMethodDescriptor yX4_rowOf.desc).map (fun d => d.parameters.length) = some 1 := ⟨rfl, eSX4_rowOf⟩
abbrev rmX4_rowOf : Room := { frames := 0, cells := 0, slots := 0, locals := 0 }
def fX4_rowOf (g : Nat) (p0 : Int32) : Option (Int32) := some (p0 / 8)
set_option maxHeartbeats 4000000 in
set_option maxRecDepth 100000 in
theorem kX4_rowOf (l : Launch) (D : va_G) (cI cJ : ClassId) (sz g : Nat) (p0 : Int32) (r : Int32) (hf : fX4_rowOf g p0 = some r) : Met l yX4_rowOf wsX4_rowOf rmX4_rowOf (va_Pc [.int p0] (sPc D (tyL cI cJ) [] sz)) (qI D (tyL cI cJ) [] sz [] r) 0 0 (va_A [] sz) := by
  refine st_i (cc := cX4_rowOf) (maxL := 1) (by decide) rfl (Nat.le_of_ble_eq_true rfl) ?_
  intro p e s m args below meth c A Q F hret0 H locs hP hS ls hl
  have F : Cx p s m args c cX4_rowOf 1 wsX4_rowOf RX4 D (tyL cI cJ) A := F
  have hx := F.1.1
  have hb := F.1.2.1
  have hown := F.1.2.2.2.1
  have hts := F.1.2.2.2.2
  have hret : ∀ (pc : Nat) (H : Heap) (locs : List Loc) (ls : Array Slot) (r' : Int32), some r' = some r → narrow .int (.int r') = .int r' → decode cX4_rowOf pc = .ok (.ireturn, 1) → WD D A [] H → va_S A s.heap H locs → W p l e rmX4_rowOf s m args below meth c H locs 0 0 Q (F0 m pc ls [.int r']) := by
    intro pc H locs ls r' h hn hd hP hS
    cases h
    exact hret0 pc H locs ls hn hd hP hS
  have hl : lv_has ls 1 [(0, .int p0)] := hl
  have h := hf
  unfold fX4_rowOf at h
  refine lv_iload_n hx hb dX4_rowOf_0 rfl (lv_at hl 0 rfl) ?_
  refine lv_bipush (v := 8) hx hb dX4_rowOf_1 (by decide) ?_
  refine lv_idiv hx hb dX4_rowOf_3 (by decide) ?_
  exact hret 4 H locs ls (p0 / 8) h rfl dX4_rowOf_4 hP hS
theorem eSX3_cellOn : yX3_cellOn.cls ≠ "java/lang/invoke/MethodHandle" ∧ yX3_cellOn.cls ≠ "java/lang/invoke/VarHandle" ∧ (parseMethodDescriptor yX3_cellOn.desc).map (fun d => d.parameters.length) = some 1 := by decide +kernel
theorem eVX3_cellOn : yX3_cellOn.cls = RX3 ∧ yX3_cellOn.cls ≠ "java/lang/invoke/MethodHandle" ∧ yX3_cellOn.cls ≠ "java/lang/invoke/VarHandle" ∧ (parseMethodDescriptor yX3_cellOn.desc).map (fun d => d.parameters.length) = some 1 := ⟨rfl, eSX3_cellOn⟩
abbrev rmX3_cellOn : Room := { frames := 1, cells := 0, slots := 0, locals := 20 }
def fX3_cellOn (g : Nat) (p0 : Int32) (z_ship : Int32) : Option (Int32) := if p0 = 0 then (bd1 (fX4_rowOf g z_ship) fun r30 => (if r30 ≤ 0 then (some z_ship) else (some (z_ship - 8)))) else (if p0 = 1 then (bd1 (fX4_columnOf g z_ship) fun r27 => (if 7 ≤ r27 then (some z_ship) else (some (z_ship + 1)))) else (if p0 = 2 then (bd1 (fX4_rowOf g z_ship) fun r24 => (if 7 ≤ r24 then (some z_ship) else (some (z_ship + 8)))) else (if p0 = 3 then (bd1 (fX4_columnOf g z_ship) fun r21 => (if r21 ≤ 0 then (some z_ship) else (some (z_ship - 1)))) else (some z_ship))))
set_option maxHeartbeats 4000000 in
set_option maxRecDepth 100000 in
theorem kX3_cellOn (l : Launch) (D : va_G) (cI cJ : ClassId) (sz g : Nat) (a_z a_z_cells a_z_kinds a_z_figures a_z_longings a_z_seas : Nat) (z_places : Int32) (z_hands : Int32) (z_aboard : Int32) (z_ship : Int32) (z_day : Int32) (z_rows : Int32) (z_columns : Int32) (p0 : Int32) (r : Int32) (hf : fX3_cellOn g p0 z_ship = some r) : Met l yX3_cellOn wsX3_cellOn rmX3_cellOn (va_Pc [.ref a_z, .int p0] (sPc D (tyL cI cJ) [(a_z, .inr (3, [.ref a_z_cells, .int z_places, .ref a_z_kinds, .ref a_z_figures, .ref a_z_longings, .ref a_z_seas, .int z_hands, .int z_aboard, .int z_ship, .int z_day, .int z_rows, .int z_columns]))] sz)) (qI D (tyL cI cJ) [(a_z, .inr (3, [.ref a_z_cells, .int z_places, .ref a_z_kinds, .ref a_z_figures, .ref a_z_longings, .ref a_z_seas, .int z_hands, .int z_aboard, .int z_ship, .int z_day, .int z_rows, .int z_columns]))] sz [(a_z, .inr (3, [.ref a_z_cells, .int z_places, .ref a_z_kinds, .ref a_z_figures, .ref a_z_longings, .ref a_z_seas, .int z_hands, .int z_aboard, .int z_ship, .int z_day, .int z_rows, .int z_columns]))] r) 0 0 (va_A [(a_z, .inr (3, [.ref a_z_cells, .int z_places, .ref a_z_kinds, .ref a_z_figures, .ref a_z_longings, .ref a_z_seas, .int z_hands, .int z_aboard, .int z_ship, .int z_day, .int z_rows, .int z_columns]))] sz) := by
  refine st_i (cc := cX3_cellOn) (maxL := 2) (by decide) rfl (Nat.le_of_ble_eq_true rfl) ?_
  intro p e s m args below meth c A Q F hret0 H locs hP hS ls hl
  have F : Cx p s m args c cX3_cellOn 2 wsX3_cellOn RX3 D (tyL cI cJ) A := F
  have hx := F.1.1
  have hb := F.1.2.1
  have hown := F.1.2.2.2.1
  have hts := F.1.2.2.2.2
  have iX3 : ∀ w ∈ wsX30, w ∈ wsX3_cellOn := fun w h => (List.mem_cons_of_mem _ (List.mem_append_right _ h))
  have hret : ∀ (pc : Nat) (H : Heap) (locs : List Loc) (ls : Array Slot) (r' : Int32), some r' = some r → narrow .int (.int r') = .int r' → decode cX3_cellOn pc = .ok (.ireturn, 1) → WD D A [(a_z, .inr (3, [.ref a_z_cells, .int z_places, .ref a_z_kinds, .ref a_z_figures, .ref a_z_longings, .ref a_z_seas, .int z_hands, .int z_aboard, .int z_ship, .int z_day, .int z_rows, .int z_columns]))] H → va_S A s.heap H locs → W p l e rmX3_cellOn s m args below meth c H locs 0 0 Q (F0 m pc ls [.int r']) := by
    intro pc H locs ls r' h hn hd hP hS
    cases h
    exact hret0 pc H locs ls hn hd hP hS
  have hl : lv_has ls 2 [(0, .ref a_z), (1, .int p0)] := hl
  have h := hf
  unfold fX3_cellOn at h
  refine lv_iload_n hx hb dX3_cellOn_0 rfl (lv_at hl 1 rfl) ?_
  by_cases hc17 : p0 = 0
  · have h := it_p hc17 h
    refine lv_tableIn (off := 31) (tgt := 32) hx hb dX3_cellOn_1 (by rw [hc17]; decide) (by rw [hc17]; decide) (by rw [hc17]; rfl) (by decide) ?_
    refine lv_aload_n hx hb dX3_cellOn_32 rfl (lv_at hl 0 rfl) ?_
    refine gt_X3_37 F iX3 (List.mem_cons_of_mem _ (List.mem_append_left _ (List.mem_of_getElem? (i := 0) rfl))) hP 0 rfl dX3_cellOn_33 ?_
    obtain ⟨r30, hk31, h⟩ := bd1_e h
    refine cN_i (rest := []) F (kX4_rowOf l D cI cJ H.size g z_ship r30 hk31) ⟨va_cnB 1 hts gX3_cellOn_X4_rowOf_n100 rfl rfl rfl (F.2.2.1.m 5 rfl) (hts (.initialized RX4) (List.mem_cons_of_mem _ (List.mem_append_left _ (List.mem_of_getElem? (i := 2) rfl)))) eSX4_rowOf ⟨Nat.le_of_ble_eq_true rfl, Nat.le_of_ble_eq_true rfl⟩, hts (.static yX4_rowOf) (List.mem_cons_of_mem _ (List.mem_append_left _ (List.mem_of_getElem? (i := 1) rfl))), trivial⟩ [] hP hS (by decide) rfl rfl rfl hl.1 (Nat.le_of_ble_eq_true rfl) ⟨Nat.le_refl _, Nat.le_refl _⟩ rfl dX3_cellOn_36 (fun H locs hP hS => ?_)
    have hP : WD D A [(a_z, .inr (3, [.ref a_z_cells, .int z_places, .ref a_z_kinds, .ref a_z_figures, .ref a_z_longings, .ref a_z_seas, .int z_hands, .int z_aboard, .int z_ship, .int z_day, .int z_rows, .int z_columns]))] H := hP
    refine lv_if_le (tgt := 52) hx hb dX3_cellOn_39 (by decide) (fun hc32 => ?_) (fun hc32 => ?_)
    · have h := it_p hc32 h
      refine lv_aload_n hx hb dX3_cellOn_52 rfl (lv_at hl 0 rfl) ?_
      refine gt_X3_37 F iX3 (List.mem_cons_of_mem _ (List.mem_append_left _ (List.mem_of_getElem? (i := 0) rfl))) hP 0 rfl dX3_cellOn_53 ?_
      exact hret 56 H locs ls z_ship h rfl dX3_cellOn_56 hP hS
    · have h := it_n hc32 h
      refine lv_aload_n hx hb dX3_cellOn_42 rfl (lv_at hl 0 rfl) ?_
      refine gt_X3_37 F iX3 (List.mem_cons_of_mem _ (List.mem_append_left _ (List.mem_of_getElem? (i := 0) rfl))) hP 0 rfl dX3_cellOn_43 ?_
      refine lv_bipush (v := 8) hx hb dX3_cellOn_46 (by decide) ?_
      refine lv_isub hx hb dX3_cellOn_48 ?_
      refine lv_goto (tgt := 56) hx hb dX3_cellOn_49 (by decide) ?_
      exact hret 56 H locs ls (z_ship - 8) h rfl dX3_cellOn_56 hP hS
  · have h := it_n hc17 h
    by_cases hc18 : p0 = 1
    · have h := it_p hc18 h
      refine lv_tableIn (off := 56) (tgt := 57) hx hb dX3_cellOn_1 (by rw [hc18]; decide) (by rw [hc18]; decide) (by rw [hc18]; rfl) (by decide) ?_
      refine lv_aload_n hx hb dX3_cellOn_57 rfl (lv_at hl 0 rfl) ?_
      refine gt_X3_37 F iX3 (List.mem_cons_of_mem _ (List.mem_append_left _ (List.mem_of_getElem? (i := 0) rfl))) hP 0 rfl dX3_cellOn_58 ?_
      obtain ⟨r27, hk28, h⟩ := bd1_e h
      refine cN_i (rest := []) F (kX4_columnOf l D cI cJ H.size g z_ship r27 hk28) ⟨va_cnB 1 hts gX3_cellOn_X4_columnOf_n103 rfl rfl rfl (F.2.2.1.m 6 rfl) (hts (.initialized RX4) (List.mem_cons_of_mem _ (List.mem_append_left _ (List.mem_of_getElem? (i := 2) rfl)))) eSX4_columnOf ⟨Nat.le_of_ble_eq_true rfl, Nat.le_of_ble_eq_true rfl⟩, hts (.static yX4_columnOf) (List.mem_cons_of_mem _ (List.mem_append_left _ (List.mem_of_getElem? (i := 4) rfl))), trivial⟩ [] hP hS (by decide) rfl rfl rfl hl.1 (Nat.le_of_ble_eq_true rfl) ⟨Nat.le_refl _, Nat.le_refl _⟩ rfl dX3_cellOn_61 (fun H locs hP hS => ?_)
      have hP : WD D A [(a_z, .inr (3, [.ref a_z_cells, .int z_places, .ref a_z_kinds, .ref a_z_figures, .ref a_z_longings, .ref a_z_seas, .int z_hands, .int z_aboard, .int z_ship, .int z_day, .int z_rows, .int z_columns]))] H := hP
      refine lv_bipush (v := 7) hx hb dX3_cellOn_64 (by decide) ?_
      refine lv_icmp_ge (tgt := 78) hx hb dX3_cellOn_66 (by decide) (fun hc29 => ?_) (fun hc29 => ?_)
      · have h := it_p hc29 h
        refine lv_aload_n hx hb dX3_cellOn_78 rfl (lv_at hl 0 rfl) ?_
        refine gt_X3_37 F iX3 (List.mem_cons_of_mem _ (List.mem_append_left _ (List.mem_of_getElem? (i := 0) rfl))) hP 0 rfl dX3_cellOn_79 ?_
        exact hret 82 H locs ls z_ship h rfl dX3_cellOn_82 hP hS
      · have h := it_n hc29 h
        refine lv_aload_n hx hb dX3_cellOn_69 rfl (lv_at hl 0 rfl) ?_
        refine gt_X3_37 F iX3 (List.mem_cons_of_mem _ (List.mem_append_left _ (List.mem_of_getElem? (i := 0) rfl))) hP 0 rfl dX3_cellOn_70 ?_
        refine lv_iconst (v := 1) hx hb dX3_cellOn_73 (by decide) ?_
        refine lv_iadd hx hb dX3_cellOn_74 ?_
        refine lv_goto (tgt := 82) hx hb dX3_cellOn_75 (by decide) ?_
        exact hret 82 H locs ls (z_ship + 1) h rfl dX3_cellOn_82 hP hS
    · have h := it_n hc18 h
      by_cases hc19 : p0 = 2
      · have h := it_p hc19 h
        refine lv_tableIn (off := 82) (tgt := 83) hx hb dX3_cellOn_1 (by rw [hc19]; decide) (by rw [hc19]; decide) (by rw [hc19]; rfl) (by decide) ?_
        refine lv_aload_n hx hb dX3_cellOn_83 rfl (lv_at hl 0 rfl) ?_
        refine gt_X3_37 F iX3 (List.mem_cons_of_mem _ (List.mem_append_left _ (List.mem_of_getElem? (i := 0) rfl))) hP 0 rfl dX3_cellOn_84 ?_
        obtain ⟨r24, hk25, h⟩ := bd1_e h
        refine cN_i (rest := []) F (kX4_rowOf l D cI cJ H.size g z_ship r24 hk25) ⟨va_cnB 1 hts gX3_cellOn_X4_rowOf_n100 rfl rfl rfl (F.2.2.1.m 5 rfl) (hts (.initialized RX4) (List.mem_cons_of_mem _ (List.mem_append_left _ (List.mem_of_getElem? (i := 2) rfl)))) eSX4_rowOf ⟨Nat.le_of_ble_eq_true rfl, Nat.le_of_ble_eq_true rfl⟩, hts (.static yX4_rowOf) (List.mem_cons_of_mem _ (List.mem_append_left _ (List.mem_of_getElem? (i := 1) rfl))), trivial⟩ [] hP hS (by decide) rfl rfl rfl hl.1 (Nat.le_of_ble_eq_true rfl) ⟨Nat.le_refl _, Nat.le_refl _⟩ rfl dX3_cellOn_87 (fun H locs hP hS => ?_)
        have hP : WD D A [(a_z, .inr (3, [.ref a_z_cells, .int z_places, .ref a_z_kinds, .ref a_z_figures, .ref a_z_longings, .ref a_z_seas, .int z_hands, .int z_aboard, .int z_ship, .int z_day, .int z_rows, .int z_columns]))] H := hP
        refine lv_bipush (v := 7) hx hb dX3_cellOn_90 (by decide) ?_
        refine lv_icmp_ge (tgt := 105) hx hb dX3_cellOn_92 (by decide) (fun hc26 => ?_) (fun hc26 => ?_)
        · have h := it_p hc26 h
          refine lv_aload_n hx hb dX3_cellOn_105 rfl (lv_at hl 0 rfl) ?_
          refine gt_X3_37 F iX3 (List.mem_cons_of_mem _ (List.mem_append_left _ (List.mem_of_getElem? (i := 0) rfl))) hP 0 rfl dX3_cellOn_106 ?_
          exact hret 109 H locs ls z_ship h rfl dX3_cellOn_109 hP hS
        · have h := it_n hc26 h
          refine lv_aload_n hx hb dX3_cellOn_95 rfl (lv_at hl 0 rfl) ?_
          refine gt_X3_37 F iX3 (List.mem_cons_of_mem _ (List.mem_append_left _ (List.mem_of_getElem? (i := 0) rfl))) hP 0 rfl dX3_cellOn_96 ?_
          refine lv_bipush (v := 8) hx hb dX3_cellOn_99 (by decide) ?_
          refine lv_iadd hx hb dX3_cellOn_101 ?_
          refine lv_goto (tgt := 109) hx hb dX3_cellOn_102 (by decide) ?_
          exact hret 109 H locs ls (z_ship + 8) h rfl dX3_cellOn_109 hP hS
      · have h := it_n hc19 h
        by_cases hc20 : p0 = 3
        · have h := it_p hc20 h
          refine lv_tableIn (off := 109) (tgt := 110) hx hb dX3_cellOn_1 (by rw [hc20]; decide) (by rw [hc20]; decide) (by rw [hc20]; rfl) (by decide) ?_
          refine lv_aload_n hx hb dX3_cellOn_110 rfl (lv_at hl 0 rfl) ?_
          refine gt_X3_37 F iX3 (List.mem_cons_of_mem _ (List.mem_append_left _ (List.mem_of_getElem? (i := 0) rfl))) hP 0 rfl dX3_cellOn_111 ?_
          obtain ⟨r21, hk22, h⟩ := bd1_e h
          refine cN_i (rest := []) F (kX4_columnOf l D cI cJ H.size g z_ship r21 hk22) ⟨va_cnB 1 hts gX3_cellOn_X4_columnOf_n103 rfl rfl rfl (F.2.2.1.m 6 rfl) (hts (.initialized RX4) (List.mem_cons_of_mem _ (List.mem_append_left _ (List.mem_of_getElem? (i := 2) rfl)))) eSX4_columnOf ⟨Nat.le_of_ble_eq_true rfl, Nat.le_of_ble_eq_true rfl⟩, hts (.static yX4_columnOf) (List.mem_cons_of_mem _ (List.mem_append_left _ (List.mem_of_getElem? (i := 4) rfl))), trivial⟩ [] hP hS (by decide) rfl rfl rfl hl.1 (Nat.le_of_ble_eq_true rfl) ⟨Nat.le_refl _, Nat.le_refl _⟩ rfl dX3_cellOn_114 (fun H locs hP hS => ?_)
          have hP : WD D A [(a_z, .inr (3, [.ref a_z_cells, .int z_places, .ref a_z_kinds, .ref a_z_figures, .ref a_z_longings, .ref a_z_seas, .int z_hands, .int z_aboard, .int z_ship, .int z_day, .int z_rows, .int z_columns]))] H := hP
          refine lv_if_le (tgt := 129) hx hb dX3_cellOn_117 (by decide) (fun hc23 => ?_) (fun hc23 => ?_)
          · have h := it_p hc23 h
            refine lv_aload_n hx hb dX3_cellOn_129 rfl (lv_at hl 0 rfl) ?_
            refine gt_X3_37 F iX3 (List.mem_cons_of_mem _ (List.mem_append_left _ (List.mem_of_getElem? (i := 0) rfl))) hP 0 rfl dX3_cellOn_130 ?_
            exact hret 133 H locs ls z_ship h rfl dX3_cellOn_133 hP hS
          · have h := it_n hc23 h
            refine lv_aload_n hx hb dX3_cellOn_120 rfl (lv_at hl 0 rfl) ?_
            refine gt_X3_37 F iX3 (List.mem_cons_of_mem _ (List.mem_append_left _ (List.mem_of_getElem? (i := 0) rfl))) hP 0 rfl dX3_cellOn_121 ?_
            refine lv_iconst (v := 1) hx hb dX3_cellOn_124 (by decide) ?_
            refine lv_isub hx hb dX3_cellOn_125 ?_
            refine lv_goto (tgt := 133) hx hb dX3_cellOn_126 (by decide) ?_
            exact hret 133 H locs ls (z_ship - 1) h rfl dX3_cellOn_133 hP hS
        · have h := it_n hc20 h
          refine lv_tabD (tgt := 134) [0, 1, 2, 3] hx hb dX3_cellOn_1 (by decide) (by decide) (List.forall_mem_cons.mpr ⟨lv_neT hc17 (by decide), List.forall_mem_cons.mpr ⟨lv_neT hc18 (by decide), List.forall_mem_cons.mpr ⟨lv_neT hc19 (by decide), List.forall_mem_cons.mpr ⟨lv_neT hc20 (by decide), fun _ h9 => absurd h9 List.not_mem_nil⟩⟩⟩⟩) (by decide) ?_
          refine lv_aload_n hx hb dX3_cellOn_134 rfl (lv_at hl 0 rfl) ?_
          refine gt_X3_37 F iX3 (List.mem_cons_of_mem _ (List.mem_append_left _ (List.mem_of_getElem? (i := 0) rfl))) hP 0 rfl dX3_cellOn_135 ?_
          exact hret 138 H locs ls z_ship h rfl dX3_cellOn_138 hP hS
theorem eSX1_spread : yX1_spread.cls ≠ "java/lang/invoke/MethodHandle" ∧ yX1_spread.cls ≠ "java/lang/invoke/VarHandle" ∧ (parseMethodDescriptor yX1_spread.desc).map (fun d => d.parameters.length) = some 2 := by decide +kernel
theorem eVX1_spread : yX1_spread.cls = RX1 ∧ yX1_spread.cls ≠ "java/lang/invoke/MethodHandle" ∧ yX1_spread.cls ≠ "java/lang/invoke/VarHandle" ∧ (parseMethodDescriptor yX1_spread.desc).map (fun d => d.parameters.length) = some 2 := ⟨rfl, eSX1_spread⟩
abbrev rmX1_spread : Room := { frames := 3, cells := 0, slots := 0, locals := 67 }
def fX1_spread_L2_b (g : Nat) (self : Int32 → (Nat → Int64) → Option ((Nat → Int64))) (x3_L2 : Int32) (z_next_L2 : Nat → Int64) : Option ((Nat → Int64)) := if 64 ≤ x3_L2 then (some z_next_L2) else (gd (inB x3_L2 64) (self (x3_L2 + 1) (vp_updL z_next_L2 x3_L2.toNatClampNeg 0)))
def fX1_spread_L2 (g : Nat) (n : Nat) : Int32 → (Nat → Int64) → Option ((Nat → Int64)) := lp (fX1_spread_L2_b g) (fun _ _ => none) n
def fX1_spread_L23_b (g : Nat) (x2_L23 : Int32) (z_chances_L23 : Nat → Int64) (v0_hands : Int32) (v0_aboard : Int32) (v0_cells : Nat → Int32) (v0_kinds : Nat → Int32) (v0_figures : Nat → Int32) (v0_longings : Nat → Int32) (v0_seas : Nat → Int32) (self : Int32 → (Nat → Int64) → Int32 → Int32 → Int32 → Option ((Nat → Int64) × Int32 × Int32 × Int32)) (x3_L23 : Int32) (z_next_L23 : Nat → Int64) (v0_ship_L23 : Int32) (v0_rows_L23 : Int32) (v0_columns_L23 : Int32) : Option ((Nat → Int64) × Int32 × Int32 × Int32) := if 64 ≤ x3_L23 then (some (z_next_L23, v0_ship_L23, v0_rows_L23, v0_columns_L23)) else (gd (inB x3_L23 64) (if (lg_cmp (z_chances_L23 x3_L23.toNatClampNeg) 0) = 0 then (self (x3_L23 + 1) z_next_L23 v0_ship_L23 v0_rows_L23 v0_columns_L23) else (gd (inB x3_L23 64) (gd (inB x3_L23 64) (gd (inB x3_L23 64) (bd3 (fX3_points g v0_hands v0_aboard x3_L23 v0_cells v0_kinds v0_figures v0_longings v0_seas) fun r15 v0_rows_16 v0_columns_17 => (bd1 (fX3_cellOn g r15 x3_L23) fun r19 => (gd (inB r19 64) (gd (inB x3_L23 64) (gd (inB r19 64) (self (x3_L23 + 1) (vp_updL (vp_updL z_next_L23 x3_L23.toNatClampNeg ((z_next_L23 x3_L23.toNatClampNeg) + (z_chances_L23 x3_L23.toNatClampNeg))) r19.toNatClampNeg (((vp_updL z_next_L23 x3_L23.toNatClampNeg ((z_next_L23 x3_L23.toNatClampNeg) + (z_chances_L23 x3_L23.toNatClampNeg))) r19.toNatClampNeg) + ((z_chances_L23 x3_L23.toNatClampNeg) * ((x2_L23 - 1).toInt64)))) x3_L23 v0_rows_16 v0_columns_17)))))))))))
def fX1_spread_L23 (g : Nat) (x2_L23 : Int32) (z_chances_L23 : Nat → Int64) (v0_hands : Int32) (v0_aboard : Int32) (v0_cells : Nat → Int32) (v0_kinds : Nat → Int32) (v0_figures : Nat → Int32) (v0_longings : Nat → Int32) (v0_seas : Nat → Int32) (n : Nat) : Int32 → (Nat → Int64) → Int32 → Int32 → Int32 → Option ((Nat → Int64) × Int32 × Int32 × Int32) := lp (fX1_spread_L23_b g x2_L23 z_chances_L23 v0_hands v0_aboard v0_cells v0_kinds v0_figures v0_longings v0_seas) (fun _ _ _ _ _ => none) n
def fX1_spread (g : Nat) (p1 : Int32) (z_chances : Nat → Int64) (z_next : Nat → Int64) (v0_hands : Int32) (v0_aboard : Int32) (v0_ship : Int32) (v0_rows : Int32) (v0_columns : Int32) (v0_cells : Nat → Int32) (v0_kinds : Nat → Int32) (v0_figures : Nat → Int32) (v0_longings : Nat → Int32) (v0_seas : Nat → Int32) : Option ((Nat → Int64) × (Nat → Int64) × Int32 × Int32 × Int32) := bd1 (fX1_spread_L2 g g 0 z_next) fun t8 => (bd4 (fX1_spread_L23 g p1 z_chances v0_hands v0_aboard v0_cells v0_kinds v0_figures v0_longings v0_seas g 0 t8 v0_ship v0_rows v0_columns) fun t24 t25 t26 t27 => (some (va_cpy t24 z_chances 0 0 64, t24, t25, t26, t27)))
set_option maxHeartbeats 4000000 in
set_option maxRecDepth 100000 in
theorem kX1_spread (l : Launch) (D : va_G) (cI cJ : ClassId) (sz g : Nat) (a_z a_z_chances a_z_next a_v0 a_v0_cells a_v0_kinds a_v0_figures a_v0_longings a_v0_seas : Nat) (z_all : Int64) (z_chances : Nat → Int64) (z_next : Nat → Int64) (v0_places : Int32) (v0_hands : Int32) (v0_aboard : Int32) (v0_ship : Int32) (v0_day : Int32) (v0_rows : Int32) (v0_columns : Int32) (v0_cells : Nat → Int32) (v0_kinds : Nat → Int32) (v0_figures : Nat → Int32) (v0_longings : Nat → Int32) (v0_seas : Nat → Int32) (p1 : Int32) (n_z_chances : Nat → Int64) (n_z_next : Nat → Int64) (n_v0_ship : Int32) (n_v0_rows : Int32) (n_v0_columns : Int32) (hf : fX1_spread g p1 z_chances z_next v0_hands v0_aboard v0_ship v0_rows v0_columns v0_cells v0_kinds v0_figures v0_longings v0_seas = some (n_z_chances, n_z_next, n_v0_ship, n_v0_rows, n_v0_columns)) : Met l yX1_spread wsX1_spread rmX1_spread (va_Pc [.ref a_z, .ref a_v0, .int p1] (sPc D (tyL cI cJ) [(a_z, .inr (1, [.ref a_z_chances, .ref a_z_next, .long z_all])), (a_z_chances, .inl (cJ, 64, .inr (.inl z_chances))), (a_z_next, .inl (cJ, 64, .inr (.inl z_next))), (a_v0, .inr (3, [.ref a_v0_cells, .int v0_places, .ref a_v0_kinds, .ref a_v0_figures, .ref a_v0_longings, .ref a_v0_seas, .int v0_hands, .int v0_aboard, .int v0_ship, .int v0_day, .int v0_rows, .int v0_columns])), (a_v0_cells, .inl (cI, 6, .inl v0_cells)), (a_v0_kinds, .inl (cI, 7, .inl v0_kinds)), (a_v0_figures, .inl (cI, 7, .inl v0_figures)), (a_v0_longings, .inl (cI, 7, .inl v0_longings)), (a_v0_seas, .inl (cI, 7, .inl v0_seas))] sz)) (qV D (tyL cI cJ) [(a_z, .inr (1, [.ref a_z_chances, .ref a_z_next, .long z_all])), (a_z_chances, .inl (cJ, 64, .inr (.inl z_chances))), (a_z_next, .inl (cJ, 64, .inr (.inl z_next))), (a_v0, .inr (3, [.ref a_v0_cells, .int v0_places, .ref a_v0_kinds, .ref a_v0_figures, .ref a_v0_longings, .ref a_v0_seas, .int v0_hands, .int v0_aboard, .int v0_ship, .int v0_day, .int v0_rows, .int v0_columns])), (a_v0_cells, .inl (cI, 6, .inl v0_cells)), (a_v0_kinds, .inl (cI, 7, .inl v0_kinds)), (a_v0_figures, .inl (cI, 7, .inl v0_figures)), (a_v0_longings, .inl (cI, 7, .inl v0_longings)), (a_v0_seas, .inl (cI, 7, .inl v0_seas))] sz [(a_z, .inr (1, [.ref a_z_chances, .ref a_z_next, .long z_all])), (a_z_chances, .inl (cJ, 64, .inr (.inl n_z_chances))), (a_z_next, .inl (cJ, 64, .inr (.inl n_z_next))), (a_v0, .inr (3, [.ref a_v0_cells, .int v0_places, .ref a_v0_kinds, .ref a_v0_figures, .ref a_v0_longings, .ref a_v0_seas, .int v0_hands, .int v0_aboard, .int n_v0_ship, .int v0_day, .int n_v0_rows, .int n_v0_columns])), (a_v0_cells, .inl (cI, 6, .inl v0_cells)), (a_v0_kinds, .inl (cI, 7, .inl v0_kinds)), (a_v0_figures, .inl (cI, 7, .inl v0_figures)), (a_v0_longings, .inl (cI, 7, .inl v0_longings)), (a_v0_seas, .inl (cI, 7, .inl v0_seas))]) 0 0 (va_A [(a_z, .inr (1, [.ref a_z_chances, .ref a_z_next, .long z_all])), (a_z_chances, .inl (cJ, 64, .inr (.inl z_chances))), (a_z_next, .inl (cJ, 64, .inr (.inl z_next))), (a_v0, .inr (3, [.ref a_v0_cells, .int v0_places, .ref a_v0_kinds, .ref a_v0_figures, .ref a_v0_longings, .ref a_v0_seas, .int v0_hands, .int v0_aboard, .int v0_ship, .int v0_day, .int v0_rows, .int v0_columns])), (a_v0_cells, .inl (cI, 6, .inl v0_cells)), (a_v0_kinds, .inl (cI, 7, .inl v0_kinds)), (a_v0_figures, .inl (cI, 7, .inl v0_figures)), (a_v0_longings, .inl (cI, 7, .inl v0_longings)), (a_v0_seas, .inl (cI, 7, .inl v0_seas))] sz) := by
  refine st_v (cc := cX1_spread) (maxL := 4) (by decide) rfl (Nat.le_of_ble_eq_true rfl) ?_
  intro p e s m args below meth c A Q F hret0 H locs hP hS ls hl
  have F : Cx p s m args c cX1_spread 4 wsX1_spread RX1 D (tyL cI cJ) A := F
  have hx := F.1.1
  have hb := F.1.2.1
  have hown := F.1.2.2.2.1
  have hts := F.1.2.2.2.2
  have iX1 : ∀ w ∈ wsX10, w ∈ wsX1_spread := fun w h => (List.mem_cons_of_mem _ (List.mem_append_left _ (List.mem_append_right _ h)))
  have iX3 : ∀ w ∈ wsX30, w ∈ wsX1_spread := fun w h => (List.mem_cons_of_mem _ (List.mem_append_right _ h))
  have hret : ∀ (pc : Nat) (H : Heap) (locs : List Loc) (ls : Array Slot) (m_z_chances : Nat → Int64) (m_z_next : Nat → Int64) (m_v0_ship : Int32) (m_v0_rows : Int32) (m_v0_columns : Int32), some (m_z_chances, m_z_next, m_v0_ship, m_v0_rows, m_v0_columns) = some (n_z_chances, n_z_next, n_v0_ship, n_v0_rows, n_v0_columns) → decode cX1_spread pc = .ok (.return_, 1) → WD D A [(a_z, .inr (1, [.ref a_z_chances, .ref a_z_next, .long z_all])), (a_z_chances, .inl (cJ, 64, .inr (.inl m_z_chances))), (a_z_next, .inl (cJ, 64, .inr (.inl m_z_next))), (a_v0, .inr (3, [.ref a_v0_cells, .int v0_places, .ref a_v0_kinds, .ref a_v0_figures, .ref a_v0_longings, .ref a_v0_seas, .int v0_hands, .int v0_aboard, .int m_v0_ship, .int v0_day, .int m_v0_rows, .int m_v0_columns])), (a_v0_cells, .inl (cI, 6, .inl v0_cells)), (a_v0_kinds, .inl (cI, 7, .inl v0_kinds)), (a_v0_figures, .inl (cI, 7, .inl v0_figures)), (a_v0_longings, .inl (cI, 7, .inl v0_longings)), (a_v0_seas, .inl (cI, 7, .inl v0_seas))] H → va_S A s.heap H locs → W p l e rmX1_spread s m args below meth c H locs 0 0 Q (F0 m pc ls []) := by
    intro pc H locs ls m_z_chances m_z_next m_v0_ship m_v0_rows m_v0_columns h hd hP hS
    cases h
    exact hret0 pc H locs ls hd hP hS
  have L2 : ∀ (x2_L2 : Int32) (z_chances_L2 : Nat → Int64) (v0_ship_L2 : Int32) (v0_rows_L2 : Int32) (v0_columns_L2 : Int32) (n : Nat) (x3_L2 : Int32) (z_next_L2 : Nat → Int64) (tt0 : Nat → Int64) (H : Heap) (locs : List Loc) (ls : Array Slot), fX1_spread_L2 g n x3_L2 z_next_L2 = some tt0 → WD D A [(a_z, .inr (1, [.ref a_z_chances, .ref a_z_next, .long z_all])), (a_z_chances, .inl (cJ, 64, .inr (.inl z_chances_L2))), (a_z_next, .inl (cJ, 64, .inr (.inl z_next_L2))), (a_v0, .inr (3, [.ref a_v0_cells, .int v0_places, .ref a_v0_kinds, .ref a_v0_figures, .ref a_v0_longings, .ref a_v0_seas, .int v0_hands, .int v0_aboard, .int v0_ship_L2, .int v0_day, .int v0_rows_L2, .int v0_columns_L2])), (a_v0_cells, .inl (cI, 6, .inl v0_cells)), (a_v0_kinds, .inl (cI, 7, .inl v0_kinds)), (a_v0_figures, .inl (cI, 7, .inl v0_figures)), (a_v0_longings, .inl (cI, 7, .inl v0_longings)), (a_v0_seas, .inl (cI, 7, .inl v0_seas))] H → va_S A s.heap H locs → lv_has ls 4 [(0, .ref a_z), (1, .ref a_v0), (2, .int x2_L2), (3, .int x3_L2)] → (∀ (H : Heap) (locs : List Loc) (ls : Array Slot), WD D A [(a_z, .inr (1, [.ref a_z_chances, .ref a_z_next, .long z_all])), (a_z_chances, .inl (cJ, 64, .inr (.inl z_chances_L2))), (a_z_next, .inl (cJ, 64, .inr (.inl tt0))), (a_v0, .inr (3, [.ref a_v0_cells, .int v0_places, .ref a_v0_kinds, .ref a_v0_figures, .ref a_v0_longings, .ref a_v0_seas, .int v0_hands, .int v0_aboard, .int v0_ship_L2, .int v0_day, .int v0_rows_L2, .int v0_columns_L2])), (a_v0_cells, .inl (cI, 6, .inl v0_cells)), (a_v0_kinds, .inl (cI, 7, .inl v0_kinds)), (a_v0_figures, .inl (cI, 7, .inl v0_figures)), (a_v0_longings, .inl (cI, 7, .inl v0_longings)), (a_v0_seas, .inl (cI, 7, .inl v0_seas))] H → va_S A s.heap H locs → lv_has ls 4 [(0, .ref a_z), (1, .ref a_v0), (2, .int x2_L2)] → W p l e rmX1_spread s m args below meth c H locs 0 0 Q (F0 m 21 ls [])) → W p l e rmX1_spread s m args below meth c H locs 0 0 Q (F0 m 2 ls []) := by
    intro x2_L2 z_chances_L2 v0_ship_L2 v0_rows_L2 v0_columns_L2 n
    induction n with
    | zero =>
      intro x3_L2 z_next_L2 tt0 H locs ls h
      exact (no_some h).elim
    | succ n ih =>
      intro x3_L2 z_next_L2 tt0 H locs ls h hP hS hl kE
      have h : fX1_spread_L2_b g (fX1_spread_L2 g n) x3_L2 z_next_L2 = some tt0 := h
      unfold fX1_spread_L2_b at h
      refine lv_iload_n hx hb dX1_spread_2 rfl (lv_at hl 3 rfl) ?_
      refine lv_bipush (v := 64) hx hb dX1_spread_3 (by decide) ?_
      refine lv_icmp_ge (tgt := 21) hx hb dX1_spread_5 (by decide) (fun hc6 => ?_) (fun hc6 => ?_)
      · have h := it_p hc6 h
        cases h
        exact kE H locs ls hP hS (lv_sub hl [0, 1, 2] rfl)
      · have h := it_n hc6 h
        refine lv_aload_n hx hb dX1_spread_8 rfl (lv_at hl 0 rfl) ?_
        refine gt_X1_15 F iX1 (List.mem_cons_of_mem _ (List.mem_append_left _ (List.mem_append_left _ (List.mem_append_left _ (List.mem_of_getElem? (i := 0) rfl))))) hP 0 rfl dX1_spread_9 ?_
        refine lv_iload_n hx hb dX1_spread_12 rfl (lv_at hl 3 rfl) ?_
        refine lv_lconst (v := 0) hx hb dX1_spread_13 (by decide) ?_
        obtain ⟨hg7, h⟩ := gd_e h
        refine r_ls F hP hS 2 rfl rfl hg7 dX1_spread_14 (fun H locs hP hS => ?_)
        have hP : WD D A [(a_z, .inr (1, [.ref a_z_chances, .ref a_z_next, .long z_all])), (a_z_chances, .inl (cJ, 64, .inr (.inl z_chances_L2))), (a_z_next, .inl (cJ, 64, .inr (.inl (vp_updL z_next_L2 x3_L2.toNatClampNeg 0)))), (a_v0, .inr (3, [.ref a_v0_cells, .int v0_places, .ref a_v0_kinds, .ref a_v0_figures, .ref a_v0_longings, .ref a_v0_seas, .int v0_hands, .int v0_aboard, .int v0_ship_L2, .int v0_day, .int v0_rows_L2, .int v0_columns_L2])), (a_v0_cells, .inl (cI, 6, .inl v0_cells)), (a_v0_kinds, .inl (cI, 7, .inl v0_kinds)), (a_v0_figures, .inl (cI, 7, .inl v0_figures)), (a_v0_longings, .inl (cI, 7, .inl v0_longings)), (a_v0_seas, .inl (cI, 7, .inl v0_seas))] H := hP
        refine lv_iinc (v := x3_L2 + 1) (lv' := [(3, .int (x3_L2 + 1)), (0, .ref a_z), (1, .ref a_v0), (2, .int x2_L2)]) hx hb dX1_spread_15 hl (k := 3) rfl rfl (by decide) rfl (fun ls hl => ?_)
        refine lv_goto (tgt := 2) hx hb dX1_spread_18 (by decide) ?_
        exact ih (x3_L2 + 1) (vp_updL z_next_L2 x3_L2.toNatClampNeg 0) tt0 H locs ls h hP hS (lv_sub hl [1, 2, 3, 0] rfl) kE
  have L23 : ∀ (x2_L23 : Int32) (z_chances_L23 : Nat → Int64) (n : Nat) (x3_L23 : Int32) (z_next_L23 : Nat → Int64) (v0_ship_L23 : Int32) (v0_rows_L23 : Int32) (v0_columns_L23 : Int32) (tt0 : Nat → Int64) (tt1 : Int32) (tt2 : Int32) (tt3 : Int32) (H : Heap) (locs : List Loc) (ls : Array Slot), fX1_spread_L23 g x2_L23 z_chances_L23 v0_hands v0_aboard v0_cells v0_kinds v0_figures v0_longings v0_seas n x3_L23 z_next_L23 v0_ship_L23 v0_rows_L23 v0_columns_L23 = some (tt0, tt1, tt2, tt3) → WD D A [(a_z, .inr (1, [.ref a_z_chances, .ref a_z_next, .long z_all])), (a_z_chances, .inl (cJ, 64, .inr (.inl z_chances_L23))), (a_z_next, .inl (cJ, 64, .inr (.inl z_next_L23))), (a_v0, .inr (3, [.ref a_v0_cells, .int v0_places, .ref a_v0_kinds, .ref a_v0_figures, .ref a_v0_longings, .ref a_v0_seas, .int v0_hands, .int v0_aboard, .int v0_ship_L23, .int v0_day, .int v0_rows_L23, .int v0_columns_L23])), (a_v0_cells, .inl (cI, 6, .inl v0_cells)), (a_v0_kinds, .inl (cI, 7, .inl v0_kinds)), (a_v0_figures, .inl (cI, 7, .inl v0_figures)), (a_v0_longings, .inl (cI, 7, .inl v0_longings)), (a_v0_seas, .inl (cI, 7, .inl v0_seas))] H → va_S A s.heap H locs → lv_has ls 4 [(0, .ref a_z), (1, .ref a_v0), (2, .int x2_L23), (3, .int x3_L23)] → (∀ (H : Heap) (locs : List Loc) (ls : Array Slot), WD D A [(a_z, .inr (1, [.ref a_z_chances, .ref a_z_next, .long z_all])), (a_z_chances, .inl (cJ, 64, .inr (.inl z_chances_L23))), (a_z_next, .inl (cJ, 64, .inr (.inl tt0))), (a_v0, .inr (3, [.ref a_v0_cells, .int v0_places, .ref a_v0_kinds, .ref a_v0_figures, .ref a_v0_longings, .ref a_v0_seas, .int v0_hands, .int v0_aboard, .int tt1, .int v0_day, .int tt2, .int tt3])), (a_v0_cells, .inl (cI, 6, .inl v0_cells)), (a_v0_kinds, .inl (cI, 7, .inl v0_kinds)), (a_v0_figures, .inl (cI, 7, .inl v0_figures)), (a_v0_longings, .inl (cI, 7, .inl v0_longings)), (a_v0_seas, .inl (cI, 7, .inl v0_seas))] H → va_S A s.heap H locs → lv_has ls 4 [(0, .ref a_z)] → W p l e rmX1_spread s m args below meth c H locs 0 0 Q (F0 m 93 ls [])) → W p l e rmX1_spread s m args below meth c H locs 0 0 Q (F0 m 23 ls []) := by
    intro x2_L23 z_chances_L23 n
    induction n with
    | zero =>
      intro x3_L23 z_next_L23 v0_ship_L23 v0_rows_L23 v0_columns_L23 tt0 tt1 tt2 tt3 H locs ls h
      exact (no_some h).elim
    | succ n ih =>
      intro x3_L23 z_next_L23 v0_ship_L23 v0_rows_L23 v0_columns_L23 tt0 tt1 tt2 tt3 H locs ls h hP hS hl kE
      have h : fX1_spread_L23_b g x2_L23 z_chances_L23 v0_hands v0_aboard v0_cells v0_kinds v0_figures v0_longings v0_seas (fX1_spread_L23 g x2_L23 z_chances_L23 v0_hands v0_aboard v0_cells v0_kinds v0_figures v0_longings v0_seas n) x3_L23 z_next_L23 v0_ship_L23 v0_rows_L23 v0_columns_L23 = some (tt0, tt1, tt2, tt3) := h
      unfold fX1_spread_L23_b at h
      refine lv_iload_n hx hb dX1_spread_23 rfl (lv_at hl 3 rfl) ?_
      refine lv_bipush (v := 64) hx hb dX1_spread_24 (by decide) ?_
      refine lv_icmp_ge (tgt := 93) hx hb dX1_spread_26 (by decide) (fun hc9 => ?_) (fun hc9 => ?_)
      · have h := it_p hc9 h
        cases h
        exact kE H locs ls hP hS (lv_sub hl [0] rfl)
      · have h := it_n hc9 h
        refine lv_aload_n hx hb dX1_spread_29 rfl (lv_at hl 0 rfl) ?_
        refine gt_X1_9 F iX1 (List.mem_cons_of_mem _ (List.mem_append_left _ (List.mem_append_left _ (List.mem_append_left _ (List.mem_of_getElem? (i := 1) rfl))))) hP 0 rfl dX1_spread_30 ?_
        refine lv_iload_n hx hb dX1_spread_33 rfl (lv_at hl 3 rfl) ?_
        obtain ⟨hg10, h⟩ := gd_e h
        refine r_la F hP 1 rfl rfl hg10 dX1_spread_34 ?_
        refine lv_lconst (v := 0) hx hb dX1_spread_35 (by decide) ?_
        refine W.lcmp hx hb dX1_spread_36 ?_
        refine lv_if_eq (tgt := 87) hx hb dX1_spread_37 (by decide) (fun hc11 => ?_) (fun hc11 => ?_)
        · have h := it_p hc11 h
          refine lv_iinc (v := x3_L23 + 1) (lv' := [(3, .int (x3_L23 + 1)), (0, .ref a_z), (1, .ref a_v0), (2, .int x2_L23)]) hx hb dX1_spread_87 hl (k := 3) rfl rfl (by decide) rfl (fun ls hl => ?_)
          refine lv_goto (tgt := 23) hx hb dX1_spread_90 (by decide) ?_
          exact ih (x3_L23 + 1) z_next_L23 v0_ship_L23 v0_rows_L23 v0_columns_L23 tt0 tt1 tt2 tt3 H locs ls h hP hS (lv_sub hl [1, 2, 3, 0] rfl) kE
        · have h := it_n hc11 h
          refine lv_aload_n hx hb dX1_spread_40 rfl (lv_at hl 1 rfl) ?_
          refine lv_iload_n hx hb dX1_spread_41 rfl (lv_at hl 3 rfl) ?_
          refine pt_X1_18 F iX3 (F.2.2.1.f 19 rfl) hP hS 3 rfl dX1_spread_42 (fun H locs hP hS => ?_)
          have hP : WD D A [(a_z, .inr (1, [.ref a_z_chances, .ref a_z_next, .long z_all])), (a_z_chances, .inl (cJ, 64, .inr (.inl z_chances_L23))), (a_z_next, .inl (cJ, 64, .inr (.inl z_next_L23))), (a_v0, .inr (3, [.ref a_v0_cells, .int v0_places, .ref a_v0_kinds, .ref a_v0_figures, .ref a_v0_longings, .ref a_v0_seas, .int v0_hands, .int v0_aboard, .int x3_L23, .int v0_day, .int v0_rows_L23, .int v0_columns_L23])), (a_v0_cells, .inl (cI, 6, .inl v0_cells)), (a_v0_kinds, .inl (cI, 7, .inl v0_kinds)), (a_v0_figures, .inl (cI, 7, .inl v0_figures)), (a_v0_longings, .inl (cI, 7, .inl v0_longings)), (a_v0_seas, .inl (cI, 7, .inl v0_seas))] H := hP
          refine lv_aload_n hx hb dX1_spread_45 rfl (lv_at hl 0 rfl) ?_
          refine gt_X1_15 F iX1 (List.mem_cons_of_mem _ (List.mem_append_left _ (List.mem_append_left _ (List.mem_append_left _ (List.mem_of_getElem? (i := 0) rfl))))) hP 0 rfl dX1_spread_46 ?_
          refine lv_iload_n hx hb dX1_spread_49 rfl (lv_at hl 3 rfl) ?_
          refine lv_dup2_11 hx hb dX1_spread_50 rfl rfl ?_
          obtain ⟨hg12, h⟩ := gd_e h
          refine r_la F hP 2 rfl rfl hg12 dX1_spread_51 ?_
          refine lv_aload_n hx hb dX1_spread_52 rfl (lv_at hl 0 rfl) ?_
          refine gt_X1_9 F iX1 (List.mem_cons_of_mem _ (List.mem_append_left _ (List.mem_append_left _ (List.mem_append_left _ (List.mem_of_getElem? (i := 1) rfl))))) hP 0 rfl dX1_spread_53 ?_
          refine lv_iload_n hx hb dX1_spread_56 rfl (lv_at hl 3 rfl) ?_
          obtain ⟨hg13, h⟩ := gd_e h
          refine r_la F hP 1 rfl rfl hg13 dX1_spread_57 ?_
          refine lv_ladd hx hb dX1_spread_58 ?_
          obtain ⟨hg14, h⟩ := gd_e h
          refine r_ls F hP hS 2 rfl rfl hg14 dX1_spread_59 (fun H locs hP hS => ?_)
          have hP : WD D A [(a_z, .inr (1, [.ref a_z_chances, .ref a_z_next, .long z_all])), (a_z_chances, .inl (cJ, 64, .inr (.inl z_chances_L23))), (a_z_next, .inl (cJ, 64, .inr (.inl (vp_updL z_next_L23 x3_L23.toNatClampNeg ((z_next_L23 x3_L23.toNatClampNeg) + (z_chances_L23 x3_L23.toNatClampNeg)))))), (a_v0, .inr (3, [.ref a_v0_cells, .int v0_places, .ref a_v0_kinds, .ref a_v0_figures, .ref a_v0_longings, .ref a_v0_seas, .int v0_hands, .int v0_aboard, .int x3_L23, .int v0_day, .int v0_rows_L23, .int v0_columns_L23])), (a_v0_cells, .inl (cI, 6, .inl v0_cells)), (a_v0_kinds, .inl (cI, 7, .inl v0_kinds)), (a_v0_figures, .inl (cI, 7, .inl v0_figures)), (a_v0_longings, .inl (cI, 7, .inl v0_longings)), (a_v0_seas, .inl (cI, 7, .inl v0_seas))] H := hP
          refine lv_aload_n hx hb dX1_spread_60 rfl (lv_at hl 0 rfl) ?_
          refine gt_X1_15 F iX1 (List.mem_cons_of_mem _ (List.mem_append_left _ (List.mem_append_left _ (List.mem_append_left _ (List.mem_of_getElem? (i := 0) rfl))))) hP 0 rfl dX1_spread_61 ?_
          refine lv_aload_n hx hb dX1_spread_64 rfl (lv_at hl 1 rfl) ?_
          refine lv_aload_n hx hb dX1_spread_65 rfl (lv_at hl 1 rfl) ?_
          obtain ⟨r15, v0_rows_16, v0_columns_17, hk18, h⟩ := bd3_e h
          refine cV_i (rest := [.ref a_v0, .ref a_z_next]) F (kX3_points l D cI cJ H.size g a_v0 a_v0_cells a_v0_kinds a_v0_figures a_v0_longings a_v0_seas v0_places v0_hands v0_aboard x3_L23 v0_day v0_rows_L23 v0_columns_L23 v0_cells v0_kinds v0_figures v0_longings v0_seas r15 v0_rows_16 v0_columns_17 hk18) (cwV 0 hts gX1_spread_X3_points rfl rfl rfl eVX3_points ⟨Nat.le_of_ble_eq_true rfl, Nat.le_of_ble_eq_true rfl⟩) [3, 4, 5, 6, 7, 8] hP hS (by decide) rfl rfl 0 rfl rfl rfl hl.1 (Nat.le_of_ble_eq_true rfl) ⟨Nat.le_refl _, Nat.le_refl _⟩ rfl dX1_spread_66 (fun H locs hP hS => ?_)
          have hP : WD D A [(a_z, .inr (1, [.ref a_z_chances, .ref a_z_next, .long z_all])), (a_z_chances, .inl (cJ, 64, .inr (.inl z_chances_L23))), (a_z_next, .inl (cJ, 64, .inr (.inl (vp_updL z_next_L23 x3_L23.toNatClampNeg ((z_next_L23 x3_L23.toNatClampNeg) + (z_chances_L23 x3_L23.toNatClampNeg)))))), (a_v0, .inr (3, [.ref a_v0_cells, .int v0_places, .ref a_v0_kinds, .ref a_v0_figures, .ref a_v0_longings, .ref a_v0_seas, .int v0_hands, .int v0_aboard, .int x3_L23, .int v0_day, .int v0_rows_16, .int v0_columns_17])), (a_v0_cells, .inl (cI, 6, .inl v0_cells)), (a_v0_kinds, .inl (cI, 7, .inl v0_kinds)), (a_v0_figures, .inl (cI, 7, .inl v0_figures)), (a_v0_longings, .inl (cI, 7, .inl v0_longings)), (a_v0_seas, .inl (cI, 7, .inl v0_seas))] H := hP
          obtain ⟨r19, hk20, h⟩ := bd1_e h
          refine cV_i (rest := [.ref a_z_next]) F (kX3_cellOn l D cI cJ H.size g a_v0 a_v0_cells a_v0_kinds a_v0_figures a_v0_longings a_v0_seas v0_places v0_hands v0_aboard x3_L23 v0_day v0_rows_16 v0_columns_17 r15 r19 hk20) (cwV 1 hts gX1_spread_X3_cellOn rfl rfl rfl eVX3_cellOn ⟨Nat.le_of_ble_eq_true rfl, Nat.le_of_ble_eq_true rfl⟩) [3] hP hS (by decide) rfl rfl 0 rfl rfl rfl hl.1 (Nat.le_of_ble_eq_true rfl) ⟨Nat.le_refl _, Nat.le_refl _⟩ rfl dX1_spread_69 (fun H locs hP hS => ?_)
          have hP : WD D A [(a_z, .inr (1, [.ref a_z_chances, .ref a_z_next, .long z_all])), (a_z_chances, .inl (cJ, 64, .inr (.inl z_chances_L23))), (a_z_next, .inl (cJ, 64, .inr (.inl (vp_updL z_next_L23 x3_L23.toNatClampNeg ((z_next_L23 x3_L23.toNatClampNeg) + (z_chances_L23 x3_L23.toNatClampNeg)))))), (a_v0, .inr (3, [.ref a_v0_cells, .int v0_places, .ref a_v0_kinds, .ref a_v0_figures, .ref a_v0_longings, .ref a_v0_seas, .int v0_hands, .int v0_aboard, .int x3_L23, .int v0_day, .int v0_rows_16, .int v0_columns_17])), (a_v0_cells, .inl (cI, 6, .inl v0_cells)), (a_v0_kinds, .inl (cI, 7, .inl v0_kinds)), (a_v0_figures, .inl (cI, 7, .inl v0_figures)), (a_v0_longings, .inl (cI, 7, .inl v0_longings)), (a_v0_seas, .inl (cI, 7, .inl v0_seas))] H := hP
          refine lv_dup2_11 hx hb dX1_spread_72 rfl rfl ?_
          obtain ⟨hg21, h⟩ := gd_e h
          refine r_la F hP 2 rfl rfl hg21 dX1_spread_73 ?_
          refine lv_aload_n hx hb dX1_spread_74 rfl (lv_at hl 0 rfl) ?_
          refine gt_X1_9 F iX1 (List.mem_cons_of_mem _ (List.mem_append_left _ (List.mem_append_left _ (List.mem_append_left _ (List.mem_of_getElem? (i := 1) rfl))))) hP 0 rfl dX1_spread_75 ?_
          refine lv_iload_n hx hb dX1_spread_78 rfl (lv_at hl 3 rfl) ?_
          obtain ⟨hg22, h⟩ := gd_e h
          refine r_la F hP 1 rfl rfl hg22 dX1_spread_79 ?_
          refine lv_iload_n hx hb dX1_spread_80 rfl (lv_at hl 2 rfl) ?_
          refine lv_iconst (v := 1) hx hb dX1_spread_81 (by decide) ?_
          refine lv_isub hx hb dX1_spread_82 ?_
          refine lv_i2l (v := (x2_L23 - 1).toInt64) hx hb dX1_spread_83 rfl ?_
          refine lv_lmul hx hb dX1_spread_84 ?_
          refine lv_ladd hx hb dX1_spread_85 ?_
          obtain ⟨hg23, h⟩ := gd_e h
          refine r_ls F hP hS 2 rfl rfl hg23 dX1_spread_86 (fun H locs hP hS => ?_)
          have hP : WD D A [(a_z, .inr (1, [.ref a_z_chances, .ref a_z_next, .long z_all])), (a_z_chances, .inl (cJ, 64, .inr (.inl z_chances_L23))), (a_z_next, .inl (cJ, 64, .inr (.inl (vp_updL (vp_updL z_next_L23 x3_L23.toNatClampNeg ((z_next_L23 x3_L23.toNatClampNeg) + (z_chances_L23 x3_L23.toNatClampNeg))) r19.toNatClampNeg (((vp_updL z_next_L23 x3_L23.toNatClampNeg ((z_next_L23 x3_L23.toNatClampNeg) + (z_chances_L23 x3_L23.toNatClampNeg))) r19.toNatClampNeg) + ((z_chances_L23 x3_L23.toNatClampNeg) * ((x2_L23 - 1).toInt64))))))), (a_v0, .inr (3, [.ref a_v0_cells, .int v0_places, .ref a_v0_kinds, .ref a_v0_figures, .ref a_v0_longings, .ref a_v0_seas, .int v0_hands, .int v0_aboard, .int x3_L23, .int v0_day, .int v0_rows_16, .int v0_columns_17])), (a_v0_cells, .inl (cI, 6, .inl v0_cells)), (a_v0_kinds, .inl (cI, 7, .inl v0_kinds)), (a_v0_figures, .inl (cI, 7, .inl v0_figures)), (a_v0_longings, .inl (cI, 7, .inl v0_longings)), (a_v0_seas, .inl (cI, 7, .inl v0_seas))] H := hP
          refine lv_iinc (v := x3_L23 + 1) (lv' := [(3, .int (x3_L23 + 1)), (0, .ref a_z), (1, .ref a_v0), (2, .int x2_L23)]) hx hb dX1_spread_87 hl (k := 3) rfl rfl (by decide) rfl (fun ls hl => ?_)
          refine lv_goto (tgt := 23) hx hb dX1_spread_90 (by decide) ?_
          exact ih (x3_L23 + 1) (vp_updL (vp_updL z_next_L23 x3_L23.toNatClampNeg ((z_next_L23 x3_L23.toNatClampNeg) + (z_chances_L23 x3_L23.toNatClampNeg))) r19.toNatClampNeg (((vp_updL z_next_L23 x3_L23.toNatClampNeg ((z_next_L23 x3_L23.toNatClampNeg) + (z_chances_L23 x3_L23.toNatClampNeg))) r19.toNatClampNeg) + ((z_chances_L23 x3_L23.toNatClampNeg) * ((x2_L23 - 1).toInt64)))) x3_L23 v0_rows_16 v0_columns_17 tt0 tt1 tt2 tt3 H locs ls h hP hS (lv_sub hl [1, 2, 3, 0] rfl) kE
  have hl : lv_has ls 4 [(0, .ref a_z), (1, .ref a_v0), (2, .int p1)] := hl
  have h := hf
  unfold fX1_spread at h
  refine lv_iconst (v := 0) hx hb dX1_spread_0 (by decide) ?_
  refine lv_istore_n (lv' := [(3, .int 0), (0, .ref a_z), (1, .ref a_v0), (2, .int p1)]) hx hb dX1_spread_1 rfl hl (by decide) rfl (fun ls hl => ?_)
  obtain ⟨t8, hk30, h⟩ := bd1_e h
  refine L2 p1 z_chances v0_ship v0_rows v0_columns g 0 z_next t8 H locs ls hk30 hP hS (lv_sub hl [1, 2, 3, 0] rfl) (fun H locs ls hP hS hl => ?_)
  refine lv_iconst (v := 0) hx hb dX1_spread_21 (by decide) ?_
  refine lv_istore_n (lv' := [(3, .int 0), (0, .ref a_z), (1, .ref a_v0), (2, .int p1)]) hx hb dX1_spread_22 rfl hl (by decide) rfl (fun ls hl => ?_)
  obtain ⟨t24, t25, t26, t27, hk28, h⟩ := bd4_e h
  refine L23 p1 z_chances g 0 t8 v0_ship v0_rows v0_columns t24 t25 t26 t27 H locs ls hk28 hP hS (lv_sub hl [1, 2, 3, 0] rfl) (fun H locs ls hP hS hl => ?_)
  refine lv_aload_n hx hb dX1_spread_93 rfl (lv_at hl 0 rfl) ?_
  refine gt_X1_15 F iX1 (List.mem_cons_of_mem _ (List.mem_append_left _ (List.mem_append_left _ (List.mem_append_left _ (List.mem_of_getElem? (i := 0) rfl))))) hP 0 rfl dX1_spread_94 ?_
  refine lv_iconst (v := 0) hx hb dX1_spread_97 (by decide) ?_
  refine lv_aload_n hx hb dX1_spread_98 rfl (lv_at hl 0 rfl) ?_
  refine gt_X1_9 F iX1 (List.mem_cons_of_mem _ (List.mem_append_left _ (List.mem_append_left _ (List.mem_append_left _ (List.mem_of_getElem? (i := 1) rfl))))) hP 0 rfl dX1_spread_99 ?_
  refine lv_iconst (v := 0) hx hb dX1_spread_102 (by decide) ?_
  refine lv_bipush (v := 64) hx hb dX1_spread_103 (by decide) ?_
  refine r_cpl F hP hS hl.1 (List.mem_cons_of_mem _ (List.mem_append_left _ (List.mem_append_left _ (List.mem_append_left _ (List.mem_of_getElem? (i := 2) rfl))))) (List.mem_cons_of_mem _ (List.mem_append_left _ (List.mem_append_left _ (List.mem_append_left _ (List.mem_of_getElem? (i := 3) rfl))))) (List.mem_cons_of_mem _ (List.mem_append_left _ (List.mem_append_left _ (List.mem_append_left _ (List.mem_of_getElem? (i := 4) rfl))))) (List.mem_cons_of_mem _ (List.mem_append_left _ (List.mem_append_left _ (List.mem_append_left _ (List.mem_of_getElem? (i := 5) rfl))))) 2 1 rfl rfl (by decide) rfl (Nat.le_of_ble_eq_true rfl) (Nat.le_of_ble_eq_true rfl) dX1_spread_105 (fun H locs hP hS => ?_)
  have hP : WD D A [(a_z, .inr (1, [.ref a_z_chances, .ref a_z_next, .long z_all])), (a_z_chances, .inl (cJ, 64, .inr (.inl (va_cpy t24 z_chances 0 0 64)))), (a_z_next, .inl (cJ, 64, .inr (.inl t24))), (a_v0, .inr (3, [.ref a_v0_cells, .int v0_places, .ref a_v0_kinds, .ref a_v0_figures, .ref a_v0_longings, .ref a_v0_seas, .int v0_hands, .int v0_aboard, .int t25, .int v0_day, .int t26, .int t27])), (a_v0_cells, .inl (cI, 6, .inl v0_cells)), (a_v0_kinds, .inl (cI, 7, .inl v0_kinds)), (a_v0_figures, .inl (cI, 7, .inl v0_figures)), (a_v0_longings, .inl (cI, 7, .inl v0_longings)), (a_v0_seas, .inl (cI, 7, .inl v0_seas))] H := hP
  exact hret 108 H locs ls (va_cpy t24 z_chances 0 0 64) t24 t25 t26 t27 h dX1_spread_108 hP hS
theorem eSX3_passDay : yX3_passDay.cls ≠ "java/lang/invoke/MethodHandle" ∧ yX3_passDay.cls ≠ "java/lang/invoke/VarHandle" ∧ (parseMethodDescriptor yX3_passDay.desc).map (fun d => d.parameters.length) = some 0 := by decide +kernel
theorem eVX3_passDay : yX3_passDay.cls = RX3 ∧ yX3_passDay.cls ≠ "java/lang/invoke/MethodHandle" ∧ yX3_passDay.cls ≠ "java/lang/invoke/VarHandle" ∧ (parseMethodDescriptor yX3_passDay.desc).map (fun d => d.parameters.length) = some 0 := ⟨rfl, eSX3_passDay⟩
abbrev rmX3_passDay : Room := { frames := 1, cells := 0, slots := 0, locals := 21 }
def fX3_passDay_L12_b (g : Nat) (z_hands : Int32) (z_aboard : Int32) (self : Int32 → (Nat → Int32) → Option ((Nat → Int32))) (x1_L12 : Int32) (z_seas_L12 : Nat → Int32) : Option ((Nat → Int32)) := if z_hands ≤ x1_L12 then (some z_seas_L12) else (bd1 (fX3_isAboard g x1_L12 z_aboard) fun r3 => (if r3 = 0 then (gd (inB x1_L12 7) (gd (inB x1_L12 7) (self (x1_L12 + 1) (upd z_seas_L12 x1_L12.toNatClampNeg (if 0 < ((z_seas_L12 x1_L12.toNatClampNeg) - 1) then ((z_seas_L12 x1_L12.toNatClampNeg) - 1) else 0))))) else (gd (inB x1_L12 7) (gd (inB x1_L12 7) (self (x1_L12 + 1) (upd z_seas_L12 x1_L12.toNatClampNeg (if ((z_seas_L12 x1_L12.toNatClampNeg) + 1) < 99 then ((z_seas_L12 x1_L12.toNatClampNeg) + 1) else 99)))))))
def fX3_passDay_L12 (g : Nat) (z_hands : Int32) (z_aboard : Int32) (n : Nat) : Int32 → (Nat → Int32) → Option ((Nat → Int32)) := lp (fX3_passDay_L12_b g z_hands z_aboard) (fun _ _ => none) n
def fX3_passDay (g : Nat) (z_hands : Int32) (z_aboard : Int32) (z_day : Int32) (z_seas : Nat → Int32) : Option (Int32 × (Nat → Int32)) := bd1 (fX3_passDay_L12 g z_hands z_aboard g 0 z_seas) fun t10 => (some (z_day + 1, t10))
set_option maxHeartbeats 4000000 in
set_option maxRecDepth 100000 in
theorem kX3_passDay (l : Launch) (D : va_G) (cI cJ : ClassId) (sz g : Nat) (a_z a_z_cells a_z_kinds a_z_figures a_z_longings a_z_seas : Nat) (z_places : Int32) (z_hands : Int32) (z_aboard : Int32) (z_ship : Int32) (z_day : Int32) (z_rows : Int32) (z_columns : Int32) (z_seas : Nat → Int32) (n_z_day : Int32) (n_z_seas : Nat → Int32) (hf : fX3_passDay g z_hands z_aboard z_day z_seas = some (n_z_day, n_z_seas)) : Met l yX3_passDay wsX3_passDay rmX3_passDay (va_Pc [.ref a_z] (sPc D (tyL cI cJ) [(a_z, .inr (3, [.ref a_z_cells, .int z_places, .ref a_z_kinds, .ref a_z_figures, .ref a_z_longings, .ref a_z_seas, .int z_hands, .int z_aboard, .int z_ship, .int z_day, .int z_rows, .int z_columns])), (a_z_seas, .inl (cI, 7, .inl z_seas))] sz)) (qV D (tyL cI cJ) [(a_z, .inr (3, [.ref a_z_cells, .int z_places, .ref a_z_kinds, .ref a_z_figures, .ref a_z_longings, .ref a_z_seas, .int z_hands, .int z_aboard, .int z_ship, .int z_day, .int z_rows, .int z_columns])), (a_z_seas, .inl (cI, 7, .inl z_seas))] sz [(a_z, .inr (3, [.ref a_z_cells, .int z_places, .ref a_z_kinds, .ref a_z_figures, .ref a_z_longings, .ref a_z_seas, .int z_hands, .int z_aboard, .int z_ship, .int n_z_day, .int z_rows, .int z_columns])), (a_z_seas, .inl (cI, 7, .inl n_z_seas))]) 0 0 (va_A [(a_z, .inr (3, [.ref a_z_cells, .int z_places, .ref a_z_kinds, .ref a_z_figures, .ref a_z_longings, .ref a_z_seas, .int z_hands, .int z_aboard, .int z_ship, .int z_day, .int z_rows, .int z_columns])), (a_z_seas, .inl (cI, 7, .inl z_seas))] sz) := by
  refine st_v (cc := cX3_passDay) (maxL := 2) (by decide) rfl (Nat.le_of_ble_eq_true rfl) ?_
  intro p e s m args below meth c A Q F hret0 H locs hP hS ls hl
  have F : Cx p s m args c cX3_passDay 2 wsX3_passDay RX3 D (tyL cI cJ) A := F
  have hx := F.1.1
  have hb := F.1.2.1
  have hown := F.1.2.2.2.1
  have hts := F.1.2.2.2.2
  have iX3 : ∀ w ∈ wsX30, w ∈ wsX3_passDay := fun w h => (List.mem_cons_of_mem _ (List.mem_append_right _ h))
  have hret : ∀ (pc : Nat) (H : Heap) (locs : List Loc) (ls : Array Slot) (m_z_day : Int32) (m_z_seas : Nat → Int32), some (m_z_day, m_z_seas) = some (n_z_day, n_z_seas) → decode cX3_passDay pc = .ok (.return_, 1) → WD D A [(a_z, .inr (3, [.ref a_z_cells, .int z_places, .ref a_z_kinds, .ref a_z_figures, .ref a_z_longings, .ref a_z_seas, .int z_hands, .int z_aboard, .int z_ship, .int m_z_day, .int z_rows, .int z_columns])), (a_z_seas, .inl (cI, 7, .inl m_z_seas))] H → va_S A s.heap H locs → W p l e rmX3_passDay s m args below meth c H locs 0 0 Q (F0 m pc ls []) := by
    intro pc H locs ls m_z_day m_z_seas h hd hP hS
    cases h
    exact hret0 pc H locs ls hd hP hS
  have L12 : ∀ (z_day_L12 : Int32) (n : Nat) (x1_L12 : Int32) (z_seas_L12 : Nat → Int32) (tt0 : Nat → Int32) (H : Heap) (locs : List Loc) (ls : Array Slot), fX3_passDay_L12 g z_hands z_aboard n x1_L12 z_seas_L12 = some tt0 → WD D A [(a_z, .inr (3, [.ref a_z_cells, .int z_places, .ref a_z_kinds, .ref a_z_figures, .ref a_z_longings, .ref a_z_seas, .int z_hands, .int z_aboard, .int z_ship, .int z_day_L12, .int z_rows, .int z_columns])), (a_z_seas, .inl (cI, 7, .inl z_seas_L12))] H → va_S A s.heap H locs → lv_has ls 2 [(0, .ref a_z), (1, .int x1_L12)] → (∀ (H : Heap) (locs : List Loc) (ls : Array Slot), WD D A [(a_z, .inr (3, [.ref a_z_cells, .int z_places, .ref a_z_kinds, .ref a_z_figures, .ref a_z_longings, .ref a_z_seas, .int z_hands, .int z_aboard, .int z_ship, .int z_day_L12, .int z_rows, .int z_columns])), (a_z_seas, .inl (cI, 7, .inl tt0))] H → va_S A s.heap H locs → lv_has ls 2 [] → W p l e rmX3_passDay s m args below meth c H locs 0 0 Q (F0 m 74 ls [])) → W p l e rmX3_passDay s m args below meth c H locs 0 0 Q (F0 m 12 ls []) := by
    intro z_day_L12 n
    induction n with
    | zero =>
      intro x1_L12 z_seas_L12 tt0 H locs ls h
      exact (no_some h).elim
    | succ n ih =>
      intro x1_L12 z_seas_L12 tt0 H locs ls h hP hS hl kE
      have h : fX3_passDay_L12_b g z_hands z_aboard (fX3_passDay_L12 g z_hands z_aboard n) x1_L12 z_seas_L12 = some tt0 := h
      unfold fX3_passDay_L12_b at h
      refine lv_iload_n hx hb dX3_passDay_12 rfl (lv_at hl 1 rfl) ?_
      refine lv_aload_n hx hb dX3_passDay_13 rfl (lv_at hl 0 rfl) ?_
      refine gt_X3_31 F iX3 (List.mem_cons_of_mem _ (List.mem_append_left _ (List.mem_of_getElem? (i := 1) rfl))) hP 0 rfl dX3_passDay_14 ?_
      refine lv_icmp_ge (tgt := 74) hx hb dX3_passDay_17 (by decide) (fun hc2 => ?_) (fun hc2 => ?_)
      · have h := it_p hc2 h
        cases h
        exact kE H locs ls hP hS (lv_sub hl [] rfl)
      · have h := it_n hc2 h
        refine lv_aload_n hx hb dX3_passDay_20 rfl (lv_at hl 0 rfl) ?_
        refine lv_iload_n hx hb dX3_passDay_21 rfl (lv_at hl 1 rfl) ?_
        obtain ⟨r3, hk4, h⟩ := bd1_e h
        refine cV_i (rest := []) F (kX3_isAboard l D cI cJ H.size g a_z a_z_cells a_z_kinds a_z_figures a_z_longings a_z_seas z_places z_hands z_aboard z_ship z_day_L12 z_rows z_columns x1_L12 r3 hk4) (cwV 1 hts gX3_passDay_X3_isAboard rfl rfl rfl eVX3_isAboard ⟨Nat.le_of_ble_eq_true rfl, Nat.le_of_ble_eq_true rfl⟩) [0] hP hS (by decide) rfl rfl 0 rfl rfl rfl hl.1 (Nat.le_of_ble_eq_true rfl) ⟨Nat.le_refl _, Nat.le_refl _⟩ rfl dX3_passDay_22 (fun H locs hP hS => ?_)
        have hP : WD D A [(a_z, .inr (3, [.ref a_z_cells, .int z_places, .ref a_z_kinds, .ref a_z_figures, .ref a_z_longings, .ref a_z_seas, .int z_hands, .int z_aboard, .int z_ship, .int z_day_L12, .int z_rows, .int z_columns])), (a_z_seas, .inl (cI, 7, .inl z_seas_L12))] H := hP
        refine lv_if_eq (tgt := 50) hx hb dX3_passDay_25 (by decide) (fun hc5 => ?_) (fun hc5 => ?_)
        · have h := it_p hc5 h
          refine lv_aload_n hx hb dX3_passDay_50 rfl (lv_at hl 0 rfl) ?_
          refine gt_X3_24 F iX3 (List.mem_cons_of_mem _ (List.mem_append_left _ (List.mem_of_getElem? (i := 2) rfl))) hP 0 rfl dX3_passDay_51 ?_
          refine lv_iload_n hx hb dX3_passDay_54 rfl (lv_at hl 1 rfl) ?_
          refine lv_iconst (v := 0) hx hb dX3_passDay_55 (by decide) ?_
          refine lv_aload_n hx hb dX3_passDay_56 rfl (lv_at hl 0 rfl) ?_
          refine gt_X3_24 F iX3 (List.mem_cons_of_mem _ (List.mem_append_left _ (List.mem_of_getElem? (i := 2) rfl))) hP 0 rfl dX3_passDay_57 ?_
          refine lv_iload_n hx hb dX3_passDay_60 rfl (lv_at hl 1 rfl) ?_
          obtain ⟨hg6, h⟩ := gd_e h
          refine r_ia F hP 1 rfl rfl hg6 dX3_passDay_61 ?_
          refine lv_iconst (v := 1) hx hb dX3_passDay_62 (by decide) ?_
          refine lv_isub hx hb dX3_passDay_63 ?_
          refine r_mmax F hl.1 (List.mem_cons_of_mem _ (List.mem_append_left _ (List.mem_of_getElem? (i := 7) rfl))) (List.mem_cons_of_mem _ (List.mem_append_left _ (List.mem_of_getElem? (i := 8) rfl))) (List.mem_cons_of_mem _ (List.mem_append_left _ (List.mem_of_getElem? (i := 5) rfl))) (List.mem_cons_of_mem _ (List.mem_append_left _ (List.mem_of_getElem? (i := 9) rfl))) (Nat.le_of_ble_eq_true rfl) (Nat.le_of_ble_eq_true rfl) ⟨Nat.le_refl _, Nat.le_refl _⟩ dX3_passDay_64 ?_
          obtain ⟨hg7, h⟩ := gd_e h
          refine r_is F hP hS 1 rfl rfl hg7 dX3_passDay_67 (fun H locs hP hS => ?_)
          have hP : WD D A [(a_z, .inr (3, [.ref a_z_cells, .int z_places, .ref a_z_kinds, .ref a_z_figures, .ref a_z_longings, .ref a_z_seas, .int z_hands, .int z_aboard, .int z_ship, .int z_day_L12, .int z_rows, .int z_columns])), (a_z_seas, .inl (cI, 7, .inl (upd z_seas_L12 x1_L12.toNatClampNeg (if 0 < ((z_seas_L12 x1_L12.toNatClampNeg) - 1) then ((z_seas_L12 x1_L12.toNatClampNeg) - 1) else 0))))] H := hP
          refine lv_iinc (v := x1_L12 + 1) (lv' := [(1, .int (x1_L12 + 1)), (0, .ref a_z)]) hx hb dX3_passDay_68 hl (k := 1) rfl rfl (by decide) rfl (fun ls hl => ?_)
          refine lv_goto (tgt := 12) hx hb dX3_passDay_71 (by decide) ?_
          exact ih (x1_L12 + 1) (upd z_seas_L12 x1_L12.toNatClampNeg (if 0 < ((z_seas_L12 x1_L12.toNatClampNeg) - 1) then ((z_seas_L12 x1_L12.toNatClampNeg) - 1) else 0)) tt0 H locs ls h hP hS (lv_sub hl [1, 0] rfl) kE
        · have h := it_n hc5 h
          refine lv_aload_n hx hb dX3_passDay_28 rfl (lv_at hl 0 rfl) ?_
          refine gt_X3_24 F iX3 (List.mem_cons_of_mem _ (List.mem_append_left _ (List.mem_of_getElem? (i := 2) rfl))) hP 0 rfl dX3_passDay_29 ?_
          refine lv_iload_n hx hb dX3_passDay_32 rfl (lv_at hl 1 rfl) ?_
          refine lv_bipush (v := 99) hx hb dX3_passDay_33 (by decide) ?_
          refine lv_aload_n hx hb dX3_passDay_35 rfl (lv_at hl 0 rfl) ?_
          refine gt_X3_24 F iX3 (List.mem_cons_of_mem _ (List.mem_append_left _ (List.mem_of_getElem? (i := 2) rfl))) hP 0 rfl dX3_passDay_36 ?_
          refine lv_iload_n hx hb dX3_passDay_39 rfl (lv_at hl 1 rfl) ?_
          obtain ⟨hg8, h⟩ := gd_e h
          refine r_ia F hP 1 rfl rfl hg8 dX3_passDay_40 ?_
          refine lv_iconst (v := 1) hx hb dX3_passDay_41 (by decide) ?_
          refine lv_iadd hx hb dX3_passDay_42 ?_
          refine r_mmin F hl.1 (List.mem_cons_of_mem _ (List.mem_append_left _ (List.mem_of_getElem? (i := 3) rfl))) (List.mem_cons_of_mem _ (List.mem_append_left _ (List.mem_of_getElem? (i := 4) rfl))) (List.mem_cons_of_mem _ (List.mem_append_left _ (List.mem_of_getElem? (i := 5) rfl))) (List.mem_cons_of_mem _ (List.mem_append_left _ (List.mem_of_getElem? (i := 6) rfl))) (Nat.le_of_ble_eq_true rfl) (Nat.le_of_ble_eq_true rfl) ⟨Nat.le_refl _, Nat.le_refl _⟩ dX3_passDay_43 ?_
          obtain ⟨hg9, h⟩ := gd_e h
          refine r_is F hP hS 1 rfl rfl hg9 dX3_passDay_46 (fun H locs hP hS => ?_)
          have hP : WD D A [(a_z, .inr (3, [.ref a_z_cells, .int z_places, .ref a_z_kinds, .ref a_z_figures, .ref a_z_longings, .ref a_z_seas, .int z_hands, .int z_aboard, .int z_ship, .int z_day_L12, .int z_rows, .int z_columns])), (a_z_seas, .inl (cI, 7, .inl (upd z_seas_L12 x1_L12.toNatClampNeg (if ((z_seas_L12 x1_L12.toNatClampNeg) + 1) < 99 then ((z_seas_L12 x1_L12.toNatClampNeg) + 1) else 99))))] H := hP
          refine lv_goto (tgt := 68) hx hb dX3_passDay_47 (by decide) ?_
          refine lv_iinc (v := x1_L12 + 1) (lv' := [(1, .int (x1_L12 + 1)), (0, .ref a_z)]) hx hb dX3_passDay_68 hl (k := 1) rfl rfl (by decide) rfl (fun ls hl => ?_)
          refine lv_goto (tgt := 12) hx hb dX3_passDay_71 (by decide) ?_
          exact ih (x1_L12 + 1) (upd z_seas_L12 x1_L12.toNatClampNeg (if ((z_seas_L12 x1_L12.toNatClampNeg) + 1) < 99 then ((z_seas_L12 x1_L12.toNatClampNeg) + 1) else 99)) tt0 H locs ls h hP hS (lv_sub hl [1, 0] rfl) kE
  have hl : lv_has ls 2 [(0, .ref a_z)] := hl
  have h := hf
  unfold fX3_passDay at h
  refine lv_aload_n hx hb dX3_passDay_0 rfl (lv_at hl 0 rfl) ?_
  refine lv_dup hx hb dX3_passDay_1 rfl ?_
  refine gt_X3_40 F iX3 (List.mem_cons_of_mem _ (List.mem_append_left _ (List.mem_of_getElem? (i := 0) rfl))) hP 0 rfl dX3_passDay_2 ?_
  refine lv_iconst (v := 1) hx hb dX3_passDay_5 (by decide) ?_
  refine lv_iadd hx hb dX3_passDay_6 ?_
  refine pt_X3_40 F iX3 (List.mem_cons_of_mem _ (List.mem_append_left _ (List.mem_of_getElem? (i := 0) rfl))) hP hS 0 rfl dX3_passDay_7 (fun H locs hP hS => ?_)
  have hP : WD D A [(a_z, .inr (3, [.ref a_z_cells, .int z_places, .ref a_z_kinds, .ref a_z_figures, .ref a_z_longings, .ref a_z_seas, .int z_hands, .int z_aboard, .int z_ship, .int (z_day + 1), .int z_rows, .int z_columns])), (a_z_seas, .inl (cI, 7, .inl z_seas))] H := hP
  refine lv_iconst (v := 0) hx hb dX3_passDay_10 (by decide) ?_
  refine lv_istore_n (lv' := [(1, .int 0), (0, .ref a_z)]) hx hb dX3_passDay_11 rfl hl (by decide) rfl (fun ls hl => ?_)
  obtain ⟨t10, hk11, h⟩ := bd1_e h
  refine L12 (z_day + 1) g 0 z_seas t10 H locs ls hk11 hP hS (lv_sub hl [1, 0] rfl) (fun H locs ls hP hS hl => ?_)
  exact hret 74 H locs ls (z_day + 1) t10 h dX3_passDay_74 hP hS
