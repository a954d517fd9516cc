theorem eSX0_draw : yX0_draw.cls ≠ "java/lang/invoke/MethodHandle" ∧ yX0_draw.cls ≠ "java/lang/invoke/VarHandle" ∧ (parseMethodDescriptor yX0_draw.desc).map (fun d => d.parameters.length) = some 1 := by decide +kernel
theorem eVX0_draw : yX0_draw.cls = RX0 ∧ yX0_draw.cls ≠ "java/lang/invoke/MethodHandle" ∧ yX0_draw.cls ≠ "java/lang/invoke/VarHandle" ∧ (parseMethodDescriptor yX0_draw.desc).map (fun d => d.parameters.length) = some 1 := ⟨rfl, eSX0_draw⟩
abbrev rmX0_draw : Room := { frames := 0, cells := 0, slots := 0, locals := 0 }
def fX0_draw (g : Nat) (p0 : Int32) (z_seed : Int32) : Option (Int32 × Int32) := if p0 ≤ 0 then (some (0, (z_seed * 1664525) + 1013904223)) else (gd (¬ p0 = 0) (some (((((z_seed * 1664525) + 1013904223) &&& 2147483647) / 256) - ((((z_seed * 1664525) + 1013904223) &&& 2147483647) / 256) / p0 * p0, (z_seed * 1664525) + 1013904223)))
set_option maxHeartbeats 4000000 in
set_option maxRecDepth 100000 in
theorem cX0_draw (l : Launch) (D : va_G) (cI cJ : ClassId) (sz g : Nat) (a_z : Nat) (z_seed : Int32) (p0 : Int32) (r : Int32) (n_z_seed : Int32) (hf : fX0_draw g p0 z_seed = some (r, n_z_seed)) : Met l yX0_draw wsX0_draw rmX0_draw (va_Pc [.ref a_z, .int p0] (sPc D (tyL cI cJ) [(a_z, .inr (0, [.int z_seed]))] sz)) (qI D (tyL cI cJ) [(a_z, .inr (0, [.int z_seed]))] sz [(a_z, .inr (0, [.int n_z_seed]))] r) 0 0 (va_A [(a_z, .inr (0, [.int z_seed]))] sz) := by
  refine st_i (cc := cX0_draw) (maxL := 2) (by decide) rfl (Nat.le_of_ble_eq_true rfl) ?_
  intro p e s m args below meth c A Q F hret0 hP hS ls hl
  have F : Cx p s m args c cX0_draw 2 wsX0_draw RX0 D (tyL cI cJ) A := F
  have hx := F.1.1
  have hb := F.1.2.1
  have hown := F.1.2.2.2.1
  have hts := F.1.2.2.2.2
  have iX0 : ∀ w ∈ wsX00, w ∈ wsX0_draw := fun w h => (List.mem_cons_of_mem _ (List.mem_append_right _ h))
  have hret : ∀ (pc : Nat) (H : Heap) (locs : List Loc) (ls : Array Slot) (r' : Int32) (m_z_seed : Int32), some (r', m_z_seed) = some (r, n_z_seed) → narrow .int (.int r') = .int r' → decode cX0_draw pc = .ok (.ireturn, 1) → WD D A [(a_z, .inr (0, [.int m_z_seed]))] H → va_S A s.heap H locs → W p l e rmX0_draw s m args below meth c H locs 0 0 Q (F0 m pc ls [.int r']) := by
    intro pc H locs ls r' m_z_seed h hn hd hP hS
    cases h
    exact hret0 pc H locs ls hn hd hP hS
  have hl : lv_has ls 2 [(0, .ref a_z), (1, .int p0)] := hl
  have h := hf
  unfold fX0_draw at h
  refine lv_aload_n hx hb dX0_draw_0 rfl (lv_at hl 0 rfl) ?_
  refine lv_aload_n hx hb dX0_draw_1 rfl (lv_at hl 0 rfl) ?_
  refine gt_X0_9 F iX0 (List.mem_cons_of_mem _ (List.mem_append_left _ (List.mem_of_getElem? (i := 0) rfl))) hP 0 rfl dX0_draw_2 ?_
  refine lv_ldc (v := 1664525) hx hb hown (hts _ (List.mem_cons_of_mem _ (List.mem_append_left _ (List.mem_of_getElem? (i := 1) rfl)))) dX0_draw_5 ?_
  refine lv_imul hx hb dX0_draw_7 ?_
  refine lv_ldc (v := 1013904223) hx hb hown (hts _ (List.mem_cons_of_mem _ (List.mem_append_left _ (List.mem_of_getElem? (i := 2) rfl)))) dX0_draw_8 ?_
  refine lv_iadd hx hb dX0_draw_10 ?_
  refine pt_X0_9 F iX0 (List.mem_cons_of_mem _ (List.mem_append_left _ (List.mem_of_getElem? (i := 0) rfl))) hP hS 0 rfl dX0_draw_11 (fun H locs hP hS => ?_)
  have hP : WD D A [(a_z, .inr (0, [.int ((z_seed * 1664525) + 1013904223)]))] H := hP
  refine lv_iload_n hx hb dX0_draw_14 rfl (lv_at hl 1 rfl) ?_
  refine lv_if_le (tgt := 34) hx hb dX0_draw_15 (by decide) (fun hc3 => ?_) (fun hc3 => ?_)
  · have h := it_p hc3 h
    refine lv_iconst (v := 0) hx hb dX0_draw_34 (by decide) ?_
    exact hret 35 H locs ls 0 ((z_seed * 1664525) + 1013904223) h rfl dX0_draw_35 hP hS
  · have h := it_n hc3 h
    refine lv_aload_n hx hb dX0_draw_18 rfl (lv_at hl 0 rfl) ?_
    refine gt_X0_9 F iX0 (List.mem_cons_of_mem _ (List.mem_append_left _ (List.mem_of_getElem? (i := 0) rfl))) hP 0 rfl dX0_draw_19 ?_
    refine lv_ldc (v := 2147483647) hx hb hown (hts _ (List.mem_cons_of_mem _ (List.mem_append_left _ (List.mem_of_getElem? (i := 3) rfl)))) dX0_draw_22 ?_
    refine lv_iand hx hb dX0_draw_24 ?_
    refine lv_sipush (v := 256) hx hb dX0_draw_25 (by decide) ?_
    refine lv_idiv hx hb dX0_draw_28 (by decide) ?_
    refine lv_iload_n hx hb dX0_draw_29 rfl (lv_at hl 1 rfl) ?_
    obtain ⟨hg4, h⟩ := gd_e h
    refine lv_irem hx hb dX0_draw_30 hg4 ?_
    refine lv_goto (tgt := 35) hx hb dX0_draw_31 (by decide) ?_
    exact hret 35 H locs ls (((((z_seed * 1664525) + 1013904223) &&& 2147483647) / 256) - ((((z_seed * 1664525) + 1013904223) &&& 2147483647) / 256) / p0 * p0) ((z_seed * 1664525) + 1013904223) h rfl dX0_draw_35 hP hS
theorem eSX3_isAboard : yX3_isAboard.cls ≠ "java/lang/invoke/MethodHandle" ∧ yX3_isAboard.cls ≠ "java/lang/invoke/VarHandle" ∧ (parseMethodDescriptor yX3_isAboard.desc).map (fun d => d.parameters.length) = some 1 := by decide +kernel
theorem eVX3_isAboard : yX3_isAboard.cls = RX3 ∧ yX3_isAboard.cls ≠ "java/lang/invoke/MethodHandle" ∧ yX3_isAboard.cls ≠ "java/lang/invoke/VarHandle" ∧ (parseMethodDescriptor yX3_isAboard.desc).map (fun d => d.parameters.length) = some 1 := ⟨rfl, eSX3_isAboard⟩
abbrev rmX3_isAboard : Room := { frames := 0, cells := 0, slots := 0, locals := 0 }
def fX3_isAboard (g : Nat) (p0 : Int32) (z_aboard : Int32) : Option (Int32) := if ((z_aboard >>> (p0 &&& 31)) &&& 1) = 1 then (some 1) else (some 0)
set_option maxHeartbeats 4000000 in
set_option maxRecDepth 100000 in
theorem cX3_isAboard (l : Launch) (D : va_G) (cI cJ : ClassId) (sz g : Nat) (a_z a_z_cells a_z_kinds a_z_figures a_z_longings a_z_seas : Nat) (z_places : Int32) (z_hands : Int32) (z_aboard : Int32) (z_ship : Int32) (z_day : Int32) (z_rows : Int32) (z_columns : Int32) (p0 : Int32) (r : Int32) (hf : fX3_isAboard g p0 z_aboard = some r) : Met l yX3_isAboard wsX3_isAboard rmX3_isAboard (va_Pc [.ref a_z, .int p0] (sPc D (tyL cI cJ) [(a_z, .inr (3, [.ref a_z_cells, .int z_places, .ref a_z_kinds, .ref a_z_figures, .ref a_z_longings, .ref a_z_seas, .int z_hands, .int z_aboard, .int z_ship, .int z_day, .int z_rows, .int z_columns]))] sz)) (qI D (tyL cI cJ) [(a_z, .inr (3, [.ref a_z_cells, .int z_places, .ref a_z_kinds, .ref a_z_figures, .ref a_z_longings, .ref a_z_seas, .int z_hands, .int z_aboard, .int z_ship, .int z_day, .int z_rows, .int z_columns]))] sz [(a_z, .inr (3, [.ref a_z_cells, .int z_places, .ref a_z_kinds, .ref a_z_figures, .ref a_z_longings, .ref a_z_seas, .int z_hands, .int z_aboard, .int z_ship, .int z_day, .int z_rows, .int z_columns]))] r) 0 0 (va_A [(a_z, .inr (3, [.ref a_z_cells, .int z_places, .ref a_z_kinds, .ref a_z_figures, .ref a_z_longings, .ref a_z_seas, .int z_hands, .int z_aboard, .int z_ship, .int z_day, .int z_rows, .int z_columns]))] sz) := by
  refine st_i (cc := cX3_isAboard) (maxL := 2) (by decide) rfl (Nat.le_of_ble_eq_true rfl) ?_
  intro p e s m args below meth c A Q F hret0 hP hS ls hl
  have F : Cx p s m args c cX3_isAboard 2 wsX3_isAboard RX3 D (tyL cI cJ) A := F
  have hx := F.1.1
  have hb := F.1.2.1
  have hown := F.1.2.2.2.1
  have hts := F.1.2.2.2.2
  have iX3 : ∀ w ∈ wsX30, w ∈ wsX3_isAboard := fun w h => (List.mem_cons_of_mem _ (List.mem_append_right _ h))
  have hret : ∀ (pc : Nat) (H : Heap) (locs : List Loc) (ls : Array Slot) (r' : Int32), some r' = some r → narrow .boolean (.int r') = .int r' → decode cX3_isAboard pc = .ok (.ireturn, 1) → WD D A [(a_z, .inr (3, [.ref a_z_cells, .int z_places, .ref a_z_kinds, .ref a_z_figures, .ref a_z_longings, .ref a_z_seas, .int z_hands, .int z_aboard, .int z_ship, .int z_day, .int z_rows, .int z_columns]))] H → va_S A s.heap H locs → W p l e rmX3_isAboard s m args below meth c H locs 0 0 Q (F0 m pc ls [.int r']) := by
    intro pc H locs ls r' h hn hd hP hS
    cases h
    exact hret0 pc H locs ls hn hd hP hS
  have hl : lv_has ls 2 [(0, .ref a_z), (1, .int p0)] := hl
  have h := hf
  unfold fX3_isAboard at h
  refine lv_aload_n hx hb dX3_isAboard_0 rfl (lv_at hl 0 rfl) ?_
  refine gt_X3_34 F iX3 (List.mem_cons_of_mem _ (List.mem_append_left _ (List.mem_of_getElem? (i := 0) rfl))) hP 0 rfl dX3_isAboard_1 ?_
  refine lv_iload_n hx hb dX3_isAboard_4 rfl (lv_at hl 1 rfl) ?_
  refine lv_ishr hx hb dX3_isAboard_5 ?_
  refine lv_iconst (v := 1) hx hb dX3_isAboard_6 (by decide) ?_
  refine lv_iand hx hb dX3_isAboard_7 ?_
  refine lv_iconst (v := 1) hx hb dX3_isAboard_8 (by decide) ?_
  refine lv_icmp_ne (tgt := 16) hx hb dX3_isAboard_9 (by decide) (fun hc2 => ?_) (fun hc2 => ?_)
  · have h := it_n hc2 h
    refine lv_iconst (v := 0) hx hb dX3_isAboard_16 (by decide) ?_
    exact hret 17 H locs ls 0 h rfl dX3_isAboard_17 hP hS
  · have h := it_p hc2 h
    refine lv_iconst (v := 1) hx hb dX3_isAboard_12 (by decide) ?_
    refine lv_goto (tgt := 17) hx hb dX3_isAboard_13 (by decide) ?_
    exact hret 17 H locs ls 1 h rfl dX3_isAboard_17 hP hS
theorem eSX3_rowsTo : yX3_rowsTo.cls ≠ "java/lang/invoke/MethodHandle" ∧ yX3_rowsTo.cls ≠ "java/lang/invoke/VarHandle" ∧ (parseMethodDescriptor yX3_rowsTo.desc).map (fun d => d.parameters.length) = some 1 := by decide +kernel
theorem eVX3_rowsTo : yX3_rowsTo.cls = RX3 ∧ yX3_rowsTo.cls ≠ "java/lang/invoke/MethodHandle" ∧ yX3_rowsTo.cls ≠ "java/lang/invoke/VarHandle" ∧ (parseMethodDescriptor yX3_rowsTo.desc).map (fun d => d.parameters.length) = some 1 := ⟨rfl, eSX3_rowsTo⟩
abbrev rmX3_rowsTo : Room := { frames := 0, cells := 0, slots := 0, locals := 0 }
def fX3_rowsTo (g : Nat) (p0 : Int32) (z_ship : Int32) (z_cells : Nat → Int32) (z_longings : Nat → Int32) : Option (Int32) := gd (inB p0 7) (gd (inB (z_longings p0.toNatClampNeg) 6) (some (((z_cells (z_longings p0.toNatClampNeg).toNatClampNeg) / 8) - (z_ship / 8))))
set_option maxHeartbeats 4000000 in
set_option maxRecDepth 100000 in
theorem cX3_rowsTo (l : Launch) (D : va_G) (cI cJ : ClassId) (sz g : Nat) (a_z a_z_cells a_z_kinds a_z_figures a_z_longings a_z_seas : Nat) (z_places : Int32) (z_hands : Int32) (z_aboard : Int32) (z_ship : Int32) (z_day : Int32) (z_rows : Int32) (z_columns : Int32) (z_cells : Nat → Int32) (z_longings : Nat → Int32) (p0 : Int32) (r : Int32) (hf : fX3_rowsTo g p0 z_ship z_cells z_longings = some r) : Met l yX3_rowsTo wsX3_rowsTo rmX3_rowsTo (va_Pc [.ref a_z, .int p0] (sPc D (tyL cI cJ) [(a_z, .inr (3, [.ref a_z_cells, .int z_places, .ref a_z_kinds, .ref a_z_figures, .ref a_z_longings, .ref a_z_seas, .int z_hands, .int z_aboard, .int z_ship, .int z_day, .int z_rows, .int z_columns])), (a_z_cells, .inl (cI, 6, .inl z_cells)), (a_z_longings, .inl (cI, 7, .inl z_longings))] sz)) (qI D (tyL cI cJ) [(a_z, .inr (3, [.ref a_z_cells, .int z_places, .ref a_z_kinds, .ref a_z_figures, .ref a_z_longings, .ref a_z_seas, .int z_hands, .int z_aboard, .int z_ship, .int z_day, .int z_rows, .int z_columns])), (a_z_cells, .inl (cI, 6, .inl z_cells)), (a_z_longings, .inl (cI, 7, .inl z_longings))] sz [(a_z, .inr (3, [.ref a_z_cells, .int z_places, .ref a_z_kinds, .ref a_z_figures, .ref a_z_longings, .ref a_z_seas, .int z_hands, .int z_aboard, .int z_ship, .int z_day, .int z_rows, .int z_columns])), (a_z_cells, .inl (cI, 6, .inl z_cells)), (a_z_longings, .inl (cI, 7, .inl z_longings))] r) 0 0 (va_A [(a_z, .inr (3, [.ref a_z_cells, .int z_places, .ref a_z_kinds, .ref a_z_figures, .ref a_z_longings, .ref a_z_seas, .int z_hands, .int z_aboard, .int z_ship, .int z_day, .int z_rows, .int z_columns])), (a_z_cells, .inl (cI, 6, .inl z_cells)), (a_z_longings, .inl (cI, 7, .inl z_longings))] sz) := by
  refine st_i (cc := cX3_rowsTo) (maxL := 2) (by decide) rfl (Nat.le_of_ble_eq_true rfl) ?_
  intro p e s m args below meth c A Q F hret0 hP hS ls hl
  have F : Cx p s m args c cX3_rowsTo 2 wsX3_rowsTo RX3 D (tyL cI cJ) A := F
  have hx := F.1.1
  have hb := F.1.2.1
  have hown := F.1.2.2.2.1
  have hts := F.1.2.2.2.2
  have iX3 : ∀ w ∈ wsX30, w ∈ wsX3_rowsTo := fun w h => (List.mem_cons_of_mem _ (List.mem_append_right _ h))
  have hret : ∀ (pc : Nat) (H : Heap) (locs : List Loc) (ls : Array Slot) (r' : Int32), some r' = some r → narrow .int (.int r') = .int r' → decode cX3_rowsTo pc = .ok (.ireturn, 1) → WD D A [(a_z, .inr (3, [.ref a_z_cells, .int z_places, .ref a_z_kinds, .ref a_z_figures, .ref a_z_longings, .ref a_z_seas, .int z_hands, .int z_aboard, .int z_ship, .int z_day, .int z_rows, .int z_columns])), (a_z_cells, .inl (cI, 6, .inl z_cells)), (a_z_longings, .inl (cI, 7, .inl z_longings))] H → va_S A s.heap H locs → W p l e rmX3_rowsTo s m args below meth c H locs 0 0 Q (F0 m pc ls [.int r']) := by
    intro pc H locs ls r' h hn hd hP hS
    cases h
    exact hret0 pc H locs ls hn hd hP hS
  have hl : lv_has ls 2 [(0, .ref a_z), (1, .int p0)] := hl
  have h := hf
  unfold fX3_rowsTo at h
  refine lv_aload_n hx hb dX3_rowsTo_0 rfl (lv_at hl 0 rfl) ?_
  refine gt_X3_9 F iX3 (List.mem_cons_of_mem _ (List.mem_append_left _ (List.mem_of_getElem? (i := 0) rfl))) hP 0 rfl dX3_rowsTo_1 ?_
  refine lv_aload_n hx hb dX3_rowsTo_4 rfl (lv_at hl 0 rfl) ?_
  refine gt_X3_21 F iX3 (List.mem_cons_of_mem _ (List.mem_append_left _ (List.mem_of_getElem? (i := 1) rfl))) hP 0 rfl dX3_rowsTo_5 ?_
  refine lv_iload_n hx hb dX3_rowsTo_8 rfl (lv_at hl 1 rfl) ?_
  obtain ⟨hg3, h⟩ := gd_e h
  refine r_ia F hP 2 rfl rfl hg3 dX3_rowsTo_9 ?_
  obtain ⟨hg4, h⟩ := gd_e h
  refine r_ia F hP 1 rfl rfl hg4 dX3_rowsTo_10 ?_
  refine lv_bipush (v := 8) hx hb dX3_rowsTo_11 (by decide) ?_
  refine lv_idiv hx hb dX3_rowsTo_13 (by decide) ?_
  refine lv_aload_n hx hb dX3_rowsTo_14 rfl (lv_at hl 0 rfl) ?_
  refine gt_X3_37 F iX3 (List.mem_cons_of_mem _ (List.mem_append_left _ (List.mem_of_getElem? (i := 2) rfl))) hP 0 rfl dX3_rowsTo_15 ?_
  refine lv_bipush (v := 8) hx hb dX3_rowsTo_18 (by decide) ?_
  refine lv_idiv hx hb dX3_rowsTo_20 (by decide) ?_
  refine lv_isub hx hb dX3_rowsTo_21 ?_
  exact hret 22 H locs ls (((z_cells (z_longings p0.toNatClampNeg).toNatClampNeg) / 8) - (z_ship / 8)) h rfl dX3_rowsTo_22 hP hS
theorem eSX3_columnsTo : yX3_columnsTo.cls ≠ "java/lang/invoke/MethodHandle" ∧ yX3_columnsTo.cls ≠ "java/lang/invoke/VarHandle" ∧ (parseMethodDescriptor yX3_columnsTo.desc).map (fun d => d.parameters.length) = some 1 := by decide +kernel
theorem eVX3_columnsTo : yX3_columnsTo.cls = RX3 ∧ yX3_columnsTo.cls ≠ "java/lang/invoke/MethodHandle" ∧ yX3_columnsTo.cls ≠ "java/lang/invoke/VarHandle" ∧ (parseMethodDescriptor yX3_columnsTo.desc).map (fun d => d.parameters.length) = some 1 := ⟨rfl, eSX3_columnsTo⟩
abbrev rmX3_columnsTo : Room := { frames := 0, cells := 0, slots := 0, locals := 0 }
def fX3_columnsTo (g : Nat) (p0 : Int32) (z_ship : Int32) (z_cells : Nat → Int32) (z_longings : Nat → Int32) : Option (Int32) := gd (inB p0 7) (gd (inB (z_longings p0.toNatClampNeg) 6) (some (((z_cells (z_longings p0.toNatClampNeg).toNatClampNeg) - (z_cells (z_longings p0.toNatClampNeg).toNatClampNeg) / 8 * 8) - (z_ship - z_ship / 8 * 8))))
set_option maxHeartbeats 4000000 in
set_option maxRecDepth 100000 in
theorem cX3_columnsTo (l : Launch) (D : va_G) (cI cJ : ClassId) (sz g : Nat) (a_z a_z_cells a_z_kinds a_z_figures a_z_longings a_z_seas : Nat) (z_places : Int32) (z_hands : Int32) (z_aboard : Int32) (z_ship : Int32) (z_day : Int32) (z_rows : Int32) (z_columns : Int32) (z_cells : Nat → Int32) (z_longings : Nat → Int32) (p0 : Int32) (r : Int32) (hf : fX3_columnsTo g p0 z_ship z_cells z_longings = some r) : Met l yX3_columnsTo wsX3_columnsTo rmX3_columnsTo (va_Pc [.ref a_z, .int p0] (sPc D (tyL cI cJ) [(a_z, .inr (3, [.ref a_z_cells, .int z_places, .ref a_z_kinds, .ref a_z_figures, .ref a_z_longings, .ref a_z_seas, .int z_hands, .int z_aboard, .int z_ship, .int z_day, .int z_rows, .int z_columns])), (a_z_cells, .inl (cI, 6, .inl z_cells)), (a_z_longings, .inl (cI, 7, .inl z_longings))] sz)) (qI D (tyL cI cJ) [(a_z, .inr (3, [.ref a_z_cells, .int z_places, .ref a_z_kinds, .ref a_z_figures, .ref a_z_longings, .ref a_z_seas, .int z_hands, .int z_aboard, .int z_ship, .int z_day, .int z_rows, .int z_columns])), (a_z_cells, .inl (cI, 6, .inl z_cells)), (a_z_longings, .inl (cI, 7, .inl z_longings))] sz [(a_z, .inr (3, [.ref a_z_cells, .int z_places, .ref a_z_kinds, .ref a_z_figures, .ref a_z_longings, .ref a_z_seas, .int z_hands, .int z_aboard, .int z_ship, .int z_day, .int z_rows, .int z_columns])), (a_z_cells, .inl (cI, 6, .inl z_cells)), (a_z_longings, .inl (cI, 7, .inl z_longings))] r) 0 0 (va_A [(a_z, .inr (3, [.ref a_z_cells, .int z_places, .ref a_z_kinds, .ref a_z_figures, .ref a_z_longings, .ref a_z_seas, .int z_hands, .int z_aboard, .int z_ship, .int z_day, .int z_rows, .int z_columns])), (a_z_cells, .inl (cI, 6, .inl z_cells)), (a_z_longings, .inl (cI, 7, .inl z_longings))] sz) := by
  refine st_i (cc := cX3_columnsTo) (maxL := 2) (by decide) rfl (Nat.le_of_ble_eq_true rfl) ?_
  intro p e s m args below meth c A Q F hret0 hP hS ls hl
  have F : Cx p s m args c cX3_columnsTo 2 wsX3_columnsTo RX3 D (tyL cI cJ) A := F
  have hx := F.1.1
  have hb := F.1.2.1
  have hown := F.1.2.2.2.1
  have hts := F.1.2.2.2.2
  have iX3 : ∀ w ∈ wsX30, w ∈ wsX3_columnsTo := fun w h => (List.mem_cons_of_mem _ (List.mem_append_right _ h))
  have hret : ∀ (pc : Nat) (H : Heap) (locs : List Loc) (ls : Array Slot) (r' : Int32), some r' = some r → narrow .int (.int r') = .int r' → decode cX3_columnsTo pc = .ok (.ireturn, 1) → WD D A [(a_z, .inr (3, [.ref a_z_cells, .int z_places, .ref a_z_kinds, .ref a_z_figures, .ref a_z_longings, .ref a_z_seas, .int z_hands, .int z_aboard, .int z_ship, .int z_day, .int z_rows, .int z_columns])), (a_z_cells, .inl (cI, 6, .inl z_cells)), (a_z_longings, .inl (cI, 7, .inl z_longings))] H → va_S A s.heap H locs → W p l e rmX3_columnsTo s m args below meth c H locs 0 0 Q (F0 m pc ls [.int r']) := by
    intro pc H locs ls r' h hn hd hP hS
    cases h
    exact hret0 pc H locs ls hn hd hP hS
  have hl : lv_has ls 2 [(0, .ref a_z), (1, .int p0)] := hl
  have h := hf
  unfold fX3_columnsTo at h
  refine lv_aload_n hx hb dX3_columnsTo_0 rfl (lv_at hl 0 rfl) ?_
  refine gt_X3_9 F iX3 (List.mem_cons_of_mem _ (List.mem_append_left _ (List.mem_of_getElem? (i := 0) rfl))) hP 0 rfl dX3_columnsTo_1 ?_
  refine lv_aload_n hx hb dX3_columnsTo_4 rfl (lv_at hl 0 rfl) ?_
  refine gt_X3_21 F iX3 (List.mem_cons_of_mem _ (List.mem_append_left _ (List.mem_of_getElem? (i := 1) rfl))) hP 0 rfl dX3_columnsTo_5 ?_
  refine lv_iload_n hx hb dX3_columnsTo_8 rfl (lv_at hl 1 rfl) ?_
  obtain ⟨hg3, h⟩ := gd_e h
  refine r_ia F hP 2 rfl rfl hg3 dX3_columnsTo_9 ?_
  obtain ⟨hg4, h⟩ := gd_e h
  refine r_ia F hP 1 rfl rfl hg4 dX3_columnsTo_10 ?_
  refine lv_bipush (v := 8) hx hb dX3_columnsTo_11 (by decide) ?_
  refine lv_irem hx hb dX3_columnsTo_13 (by decide) ?_
  refine lv_aload_n hx hb dX3_columnsTo_14 rfl (lv_at hl 0 rfl) ?_
  refine gt_X3_37 F iX3 (List.mem_cons_of_mem _ (List.mem_append_left _ (List.mem_of_getElem? (i := 2) rfl))) hP 0 rfl dX3_columnsTo_15 ?_
  refine lv_bipush (v := 8) hx hb dX3_columnsTo_18 (by decide) ?_
  refine lv_irem hx hb dX3_columnsTo_20 (by decide) ?_
  refine lv_isub hx hb dX3_columnsTo_21 ?_
  exact hret 22 H locs ls (((z_cells (z_longings p0.toNatClampNeg).toNatClampNeg) - (z_cells (z_longings p0.toNatClampNeg).toNatClampNeg) / 8 * 8) - (z_ship - z_ship / 8 * 8)) h rfl dX3_columnsTo_22 hP hS
theorem eSX3_leanOf : yX3_leanOf.cls ≠ "java/lang/invoke/MethodHandle" ∧ yX3_leanOf.cls ≠ "java/lang/invoke/VarHandle" ∧ (parseMethodDescriptor yX3_leanOf.desc).map (fun d => d.parameters.length) = some 2 := by decide +kernel
theorem eVX3_leanOf : yX3_leanOf.cls = RX3 ∧ yX3_leanOf.cls ≠ "java/lang/invoke/MethodHandle" ∧ yX3_leanOf.cls ≠ "java/lang/invoke/VarHandle" ∧ (parseMethodDescriptor yX3_leanOf.desc).map (fun d => d.parameters.length) = some 2 := ⟨rfl, eSX3_leanOf⟩
abbrev rmX3_leanOf : Room := { frames := 0, cells := 0, slots := 0, locals := 0 }
def fX3_leanOf (g : Nat) (p0 : Int32) (p1 : Int32) (z_kinds : Nat → Int32) (z_figures : Nat → Int32) (z_seas : Nat → Int32) : Option (Int32) := gd (inB p0 7) (gd (inB p0 7) (if (z_kinds p0.toNatClampNeg) = 0 then (some (((z_seas p0.toNatClampNeg) / 5) + 1)) else (if (z_kinds p0.toNatClampNeg) = 1 then (some (2 * (((z_seas p0.toNatClampNeg) / 5) + 1))) else (if (z_kinds p0.toNatClampNeg) = 2 then (some 0) else (if (z_kinds p0.toNatClampNeg) = 3 then (gd (inB p0 7) (some ((((z_seas p0.toNatClampNeg) / 5) + 1) + ((z_figures p0.toNatClampNeg) / 3)))) else (if (z_kinds p0.toNatClampNeg) = 4 then (gd (inB p0 7) (some (-((((z_seas p0.toNatClampNeg) / 5) + 1) + ((z_figures p0.toNatClampNeg) / 3))))) else (if (z_kinds p0.toNatClampNeg) = 5 then (if p1 < 4 then (some (4 * (((z_seas p0.toNatClampNeg) / 5) + 1))) else (some (((z_seas p0.toNatClampNeg) / 5) + 1))) else (some 0))))))))
set_option maxHeartbeats 4000000 in
set_option maxRecDepth 100000 in
theorem cX3_leanOf (l : Launch) (D : va_G) (cI cJ : ClassId) (sz g : Nat) (a_z a_z_cells a_z_kinds a_z_figures a_z_longings a_z_seas : Nat) (z_places : Int32) (z_hands : Int32) (z_aboard : Int32) (z_ship : Int32) (z_day : Int32) (z_rows : Int32) (z_columns : Int32) (z_kinds : Nat → Int32) (z_figures : Nat → Int32) (z_seas : Nat → Int32) (p0 : Int32) (p1 : Int32) (r : Int32) (hf : fX3_leanOf g p0 p1 z_kinds z_figures z_seas = some r) : Met l yX3_leanOf wsX3_leanOf rmX3_leanOf (va_Pc [.ref a_z, .int p0, .int p1] (sPc D (tyL cI cJ) [(a_z, .inr (3, [.ref a_z_cells, .int z_places, .ref a_z_kinds, .ref a_z_figures, .ref a_z_longings, .ref a_z_seas, .int z_hands, .int z_aboard, .int z_ship, .int z_day, .int z_rows, .int z_columns])), (a_z_kinds, .inl (cI, 7, .inl z_kinds)), (a_z_figures, .inl (cI, 7, .inl z_figures)), (a_z_seas, .inl (cI, 7, .inl z_seas))] sz)) (qI D (tyL cI cJ) [(a_z, .inr (3, [.ref a_z_cells, .int z_places, .ref a_z_kinds, .ref a_z_figures, .ref a_z_longings, .ref a_z_seas, .int z_hands, .int z_aboard, .int z_ship, .int z_day, .int z_rows, .int z_columns])), (a_z_kinds, .inl (cI, 7, .inl z_kinds)), (a_z_figures, .inl (cI, 7, .inl z_figures)), (a_z_seas, .inl (cI, 7, .inl z_seas))] sz [(a_z, .inr (3, [.ref a_z_cells, .int z_places, .ref a_z_kinds, .ref a_z_figures, .ref a_z_longings, .ref a_z_seas, .int z_hands, .int z_aboard, .int z_ship, .int z_day, .int z_rows, .int z_columns])), (a_z_kinds, .inl (cI, 7, .inl z_kinds)), (a_z_figures, .inl (cI, 7, .inl z_figures)), (a_z_seas, .inl (cI, 7, .inl z_seas))] r) 0 0 (va_A [(a_z, .inr (3, [.ref a_z_cells, .int z_places, .ref a_z_kinds, .ref a_z_figures, .ref a_z_longings, .ref a_z_seas, .int z_hands, .int z_aboard, .int z_ship, .int z_day, .int z_rows, .int z_columns])), (a_z_kinds, .inl (cI, 7, .inl z_kinds)), (a_z_figures, .inl (cI, 7, .inl z_figures)), (a_z_seas, .inl (cI, 7, .inl z_seas))] sz) := by
  refine st_i (cc := cX3_leanOf) (maxL := 4) (by decide) rfl (Nat.le_of_ble_eq_true rfl) ?_
  intro p e s m args below meth c A Q F hret0 hP hS ls hl
  have F : Cx p s m args c cX3_leanOf 4 wsX3_leanOf RX3 D (tyL cI cJ) A := F
  have hx := F.1.1
  have hb := F.1.2.1
  have hown := F.1.2.2.2.1
  have hts := F.1.2.2.2.2
  have iX3 : ∀ w ∈ wsX30, w ∈ wsX3_leanOf := fun w h => (List.mem_cons_of_mem _ (List.mem_append_right _ h))
  have hret : ∀ (pc : Nat) (H : Heap) (locs : List Loc) (ls : Array Slot) (r' : Int32), some r' = some r → narrow .int (.int r') = .int r' → decode cX3_leanOf pc = .ok (.ireturn, 1) → WD D A [(a_z, .inr (3, [.ref a_z_cells, .int z_places, .ref a_z_kinds, .ref a_z_figures, .ref a_z_longings, .ref a_z_seas, .int z_hands, .int z_aboard, .int z_ship, .int z_day, .int z_rows, .int z_columns])), (a_z_kinds, .inl (cI, 7, .inl z_kinds)), (a_z_figures, .inl (cI, 7, .inl z_figures)), (a_z_seas, .inl (cI, 7, .inl z_seas))] H → va_S A s.heap H locs → W p l e rmX3_leanOf s m args below meth c H locs 0 0 Q (F0 m pc ls [.int r']) := by
    intro pc H locs ls r' h hn hd hP hS
    cases h
    exact hret0 pc H locs ls hn hd hP hS
  have hl : lv_has ls 4 [(0, .ref a_z), (1, .int p0), (2, .int p1)] := hl
  have h := hf
  unfold fX3_leanOf at h
  refine lv_aload_n hx hb dX3_leanOf_0 rfl (lv_at hl 0 rfl) ?_
  refine gt_X3_24 F iX3 (List.mem_cons_of_mem _ (List.mem_append_left _ (List.mem_of_getElem? (i := 0) rfl))) hP 0 rfl dX3_leanOf_1 ?_
  refine lv_iload_n hx hb dX3_leanOf_4 rfl (lv_at hl 1 rfl) ?_
  obtain ⟨hg12, h⟩ := gd_e h
  refine r_ia F hP 3 rfl rfl hg12 dX3_leanOf_5 ?_
  refine lv_iconst (v := 5) hx hb dX3_leanOf_6 (by decide) ?_
  refine lv_idiv hx hb dX3_leanOf_7 (by decide) ?_
  refine lv_iconst (v := 1) hx hb dX3_leanOf_8 (by decide) ?_
  refine lv_iadd hx hb dX3_leanOf_9 ?_
  refine lv_istore_n (lv' := [(3, .int (((z_seas p0.toNatClampNeg) / 5) + 1)), (0, .ref a_z), (1, .int p0), (2, .int p1)]) hx hb dX3_leanOf_10 rfl hl (by decide) rfl (fun ls hl => ?_)
  refine lv_aload_n hx hb dX3_leanOf_11 rfl (lv_at hl 1 rfl) ?_
  refine gt_X3_15 F iX3 (List.mem_cons_of_mem _ (List.mem_append_left _ (List.mem_of_getElem? (i := 1) rfl))) hP 0 rfl dX3_leanOf_12 ?_
  refine lv_iload_n hx hb dX3_leanOf_15 rfl (lv_at hl 2 rfl) ?_
  obtain ⟨hg13, h⟩ := gd_e h
  refine r_ia F hP 1 rfl rfl hg13 dX3_leanOf_16 ?_
  by_cases hc14 : (z_kinds p0.toNatClampNeg) = 0
  · have h := it_p hc14 h
    refine lv_tableIn (off := 39) (tgt := 56) hx hb dX3_leanOf_17 (by rw [hc14]; decide) (by rw [hc14]; decide) (by rw [hc14]; rfl) (by decide) ?_
    refine lv_iload_n hx hb dX3_leanOf_56 rfl (lv_at hl 0 rfl) ?_
    exact hret 57 H locs ls (((z_seas p0.toNatClampNeg) / 5) + 1) h rfl dX3_leanOf_57 hP hS
  · have h := it_n hc14 h
    by_cases hc15 : (z_kinds p0.toNatClampNeg) = 1
    · have h := it_p hc15 h
      refine lv_tableIn (off := 41) (tgt := 58) hx hb dX3_leanOf_17 (by rw [hc15]; decide) (by rw [hc15]; decide) (by rw [hc15]; rfl) (by decide) ?_
      refine lv_iconst (v := 2) hx hb dX3_leanOf_58 (by decide) ?_
      refine lv_iload_n hx hb dX3_leanOf_59 rfl (lv_at hl 0 rfl) ?_
      refine lv_imul hx hb dX3_leanOf_60 ?_
      exact hret 61 H locs ls (2 * (((z_seas p0.toNatClampNeg) / 5) + 1)) h rfl dX3_leanOf_61 hP hS
    · have h := it_n hc15 h
      by_cases hc16 : (z_kinds p0.toNatClampNeg) = 2
      · have h := it_p hc16 h
        refine lv_tableIn (off := 45) (tgt := 62) hx hb dX3_leanOf_17 (by rw [hc16]; decide) (by rw [hc16]; decide) (by rw [hc16]; rfl) (by decide) ?_
        refine lv_iconst (v := 0) hx hb dX3_leanOf_62 (by decide) ?_
        exact hret 63 H locs ls 0 h rfl dX3_leanOf_63 hP hS
      · have h := it_n hc16 h
        by_cases hc17 : (z_kinds p0.toNatClampNeg) = 3
        · have h := it_p hc17 h
          refine lv_tableIn (off := 47) (tgt := 64) hx hb dX3_leanOf_17 (by rw [hc17]; decide) (by rw [hc17]; decide) (by rw [hc17]; rfl) (by decide) ?_
          refine lv_iload_n hx hb dX3_leanOf_64 rfl (lv_at hl 0 rfl) ?_
          refine lv_aload_n hx hb dX3_leanOf_65 rfl (lv_at hl 1 rfl) ?_
          refine gt_X3_18 F iX3 (List.mem_cons_of_mem _ (List.mem_append_left _ (List.mem_of_getElem? (i := 2) rfl))) hP 0 rfl dX3_leanOf_66 ?_
          refine lv_iload_n hx hb dX3_leanOf_69 rfl (lv_at hl 2 rfl) ?_
          obtain ⟨hg22, h⟩ := gd_e h
          refine r_ia F hP 2 rfl rfl hg22 dX3_leanOf_70 ?_
          refine lv_iconst (v := 3) hx hb dX3_leanOf_71 (by decide) ?_
          refine lv_idiv hx hb dX3_leanOf_72 (by decide) ?_
          refine lv_iadd hx hb dX3_leanOf_73 ?_
          exact hret 74 H locs ls ((((z_seas p0.toNatClampNeg) / 5) + 1) + ((z_figures p0.toNatClampNeg) / 3)) h rfl dX3_leanOf_74 hP hS
        · have h := it_n hc17 h
          by_cases hc18 : (z_kinds p0.toNatClampNeg) = 4
          · have h := it_p hc18 h
            refine lv_tableIn (off := 58) (tgt := 75) hx hb dX3_leanOf_17 (by rw [hc18]; decide) (by rw [hc18]; decide) (by rw [hc18]; rfl) (by decide) ?_
            refine lv_iload_n hx hb dX3_leanOf_75 rfl (lv_at hl 0 rfl) ?_
            refine lv_aload_n hx hb dX3_leanOf_76 rfl (lv_at hl 1 rfl) ?_
            refine gt_X3_18 F iX3 (List.mem_cons_of_mem _ (List.mem_append_left _ (List.mem_of_getElem? (i := 2) rfl))) hP 0 rfl dX3_leanOf_77 ?_
            refine lv_iload_n hx hb dX3_leanOf_80 rfl (lv_at hl 2 rfl) ?_
            obtain ⟨hg21, h⟩ := gd_e h
            refine r_ia F hP 2 rfl rfl hg21 dX3_leanOf_81 ?_
            refine lv_iconst (v := 3) hx hb dX3_leanOf_82 (by decide) ?_
            refine lv_idiv hx hb dX3_leanOf_83 (by decide) ?_
            refine lv_iadd hx hb dX3_leanOf_84 ?_
            refine lv_ineg hx hb dX3_leanOf_85 ?_
            exact hret 86 H locs ls (-((((z_seas p0.toNatClampNeg) / 5) + 1) + ((z_figures p0.toNatClampNeg) / 3))) h rfl dX3_leanOf_86 hP hS
          · have h := it_n hc18 h
            by_cases hc19 : (z_kinds p0.toNatClampNeg) = 5
            · have h := it_p hc19 h
              refine lv_tableIn (off := 70) (tgt := 87) hx hb dX3_leanOf_17 (by rw [hc19]; decide) (by rw [hc19]; decide) (by rw [hc19]; rfl) (by decide) ?_
              refine lv_iload_n hx hb dX3_leanOf_87 rfl (lv_at hl 3 rfl) ?_
              refine lv_iconst (v := 4) hx hb dX3_leanOf_88 (by decide) ?_
              refine lv_icmp_lt (tgt := 96) hx hb dX3_leanOf_89 (by decide) (fun hc20 => ?_) (fun hc20 => ?_)
              · have h := it_p hc20 h
                refine lv_iconst (v := 4) hx hb dX3_leanOf_96 (by decide) ?_
                refine lv_iload_n hx hb dX3_leanOf_97 rfl (lv_at hl 0 rfl) ?_
                refine lv_imul hx hb dX3_leanOf_98 ?_
                exact hret 99 H locs ls (4 * (((z_seas p0.toNatClampNeg) / 5) + 1)) h rfl dX3_leanOf_99 hP hS
              · have h := it_n hc20 h
                refine lv_iload_n hx hb dX3_leanOf_92 rfl (lv_at hl 0 rfl) ?_
                refine lv_goto (tgt := 99) hx hb dX3_leanOf_93 (by decide) ?_
                exact hret 99 H locs ls (((z_seas p0.toNatClampNeg) / 5) + 1) h rfl dX3_leanOf_99 hP hS
            · have h := it_n hc19 h
              refine lv_tabD (tgt := 100) [0, 1, 2, 3, 4, 5] hx hb dX3_leanOf_17 (by decide) (by decide) (List.forall_mem_cons.mpr ⟨lv_neT hc14 (by decide), List.forall_mem_cons.mpr ⟨lv_neT hc15 (by decide), List.forall_mem_cons.mpr ⟨lv_neT hc16 (by decide), List.forall_mem_cons.mpr ⟨lv_neT hc17 (by decide), List.forall_mem_cons.mpr ⟨lv_neT hc18 (by decide), List.forall_mem_cons.mpr ⟨lv_neT hc19 (by decide), fun _ h9 => absurd h9 List.not_mem_nil⟩⟩⟩⟩⟩⟩) (by decide) ?_
              refine lv_iconst (v := 0) hx hb dX3_leanOf_100 (by decide) ?_
              exact hret 101 H locs ls 0 h rfl dX3_leanOf_101 hP hS
theorem eSJ6_compare_7cf53 : yJ6_compare_7cf53.cls ≠ "java/lang/invoke/MethodHandle" ∧ yJ6_compare_7cf53.cls ≠ "java/lang/invoke/VarHandle" ∧ (parseMethodDescriptor yJ6_compare_7cf53.desc).map (fun d => d.parameters.length) = some 2 := by decide +kernel
theorem eVJ6_compare_7cf53 : yJ6_compare_7cf53.cls = RJ6 ∧ yJ6_compare_7cf53.cls ≠ "java/lang/invoke/MethodHandle" ∧ yJ6_compare_7cf53.cls ≠ "java/lang/invoke/VarHandle" ∧ (parseMethodDescriptor yJ6_compare_7cf53.desc).map (fun d => d.parameters.length) = some 2 := ⟨rfl, eSJ6_compare_7cf53⟩
abbrev rmJ6_compare_7cf53 : Room := { frames := 0, cells := 0, slots := 0, locals := 0 }
def fJ6_compare_7cf53 (g : Nat) (p0 : Int32) (p1 : Int32) : Option (Int32) := if p1 ≤ p0 then (if p0 = p1 then (some 0) else (some 1)) else (some (-1))
set_option maxHeartbeats 4000000 in
set_option maxRecDepth 100000 in
theorem cJ6_compare_7cf53 (l : Launch) (D : va_G) (cI cJ : ClassId) (sz g : Nat) (p0 : Int32) (p1 : Int32) (r : Int32) (hf : fJ6_compare_7cf53 g p0 p1 = some r) : Met l yJ6_compare_7cf53 wsJ6_compare_7cf53 rmJ6_compare_7cf53 (va_Pc [.int p0, .int p1] (sPc D (tyL cI cJ) [] sz)) (qI D (tyL cI cJ) [] sz [] r) 0 0 (va_A [] sz) := by
  refine st_i (cc := cJ6_compare_7cf53) (maxL := 2) (by decide) rfl (Nat.le_of_ble_eq_true rfl) ?_
  intro p e s m args below meth c A Q F hret0 hP hS ls hl
  have F : Cx p s m args c cJ6_compare_7cf53 2 wsJ6_compare_7cf53 RJ6 D (tyL cI cJ) A := F
  have hx := F.1.1
  have hb := F.1.2.1
  have hown := F.1.2.2.2.1
  have hts := F.1.2.2.2.2
  have hret : ∀ (pc : Nat) (H : Heap) (locs : List Loc) (ls : Array Slot) (r' : Int32), some r' = some r → narrow .int (.int r') = .int r' → decode cJ6_compare_7cf53 pc = .ok (.ireturn, 1) → WD D A [] H → va_S A s.heap H locs → W p l e rmJ6_compare_7cf53 s m args below meth c H locs 0 0 Q (F0 m pc ls [.int r']) := by
    intro pc H locs ls r' h hn hd hP hS
    cases h
    exact hret0 pc H locs ls hn hd hP hS
  have hl : lv_has ls 2 [(0, .int p0), (1, .int p1)] := hl
  have h := hf
  unfold fJ6_compare_7cf53 at h
  refine lv_iload_n hx hb dJ6_compare_7cf53_0 rfl (lv_at hl 0 rfl) ?_
  refine lv_iload_n hx hb dJ6_compare_7cf53_1 rfl (lv_at hl 1 rfl) ?_
  refine lv_icmp_ge (tgt := 9) hx hb dJ6_compare_7cf53_2 (by decide) (fun hc3 => ?_) (fun hc3 => ?_)
  · have h := it_p hc3 h
    refine lv_iload_n hx hb dJ6_compare_7cf53_9 rfl (lv_at hl 0 rfl) ?_
    refine lv_iload_n hx hb dJ6_compare_7cf53_10 rfl (lv_at hl 1 rfl) ?_
    refine lv_icmp_ne (tgt := 18) hx hb dJ6_compare_7cf53_11 (by decide) (fun hc4 => ?_) (fun hc4 => ?_)
    · have h := it_n hc4 h
      refine lv_iconst (v := 1) hx hb dJ6_compare_7cf53_18 (by decide) ?_
      exact hret 19 H locs ls 1 h rfl dJ6_compare_7cf53_19 hP hS
    · have h := it_p hc4 h
      refine lv_iconst (v := 0) hx hb dJ6_compare_7cf53_14 (by decide) ?_
      refine lv_goto (tgt := 19) hx hb dJ6_compare_7cf53_15 (by decide) ?_
      exact hret 19 H locs ls 0 h rfl dJ6_compare_7cf53_19 hP hS
  · have h := it_n hc3 h
    refine lv_iconst (v := (-1)) hx hb dJ6_compare_7cf53_5 (by decide) ?_
    refine lv_goto (tgt := 19) hx hb dJ6_compare_7cf53_6 (by decide) ?_
    exact hret 19 H locs ls (-1) h rfl dJ6_compare_7cf53_19 hP hS
theorem eSX3_weigh : yX3_weigh.cls ≠ "java/lang/invoke/MethodHandle" ∧ yX3_weigh.cls ≠ "java/lang/invoke/VarHandle" ∧ (parseMethodDescriptor yX3_weigh.desc).map (fun d => d.parameters.length) = some 0 := by decide +kernel
theorem eVX3_weigh : yX3_weigh.cls = RX3 ∧ yX3_weigh.cls ≠ "java/lang/invoke/MethodHandle" ∧ yX3_weigh.cls ≠ "java/lang/invoke/VarHandle" ∧ (parseMethodDescriptor yX3_weigh.desc).map (fun d => d.parameters.length) = some 0 := ⟨rfl, eSX3_weigh⟩
abbrev rmX3_weigh : Room := { frames := 1, cells := 0, slots := 0, locals := 23 }
def fX3_weigh_L12_b (g : Nat) (z_hands : Int32) (z_aboard : Int32) (z_ship : Int32) (z_cells : Nat → Int32) (z_kinds : Nat → Int32) (z_figures : Nat → Int32) (z_longings : Nat → Int32) (z_seas : Nat → Int32) (self : Int32 → Int32 → Int32 → Option (Int32 × Int32)) (x1_L12 : Int32) (z_rows_L12 : Int32) (z_columns_L12 : Int32) : Option (Int32 × Int32) := if z_hands ≤ x1_L12 then (some (z_rows_L12, z_columns_L12)) else (bd1 (fX3_isAboard g x1_L12 z_aboard) fun r4 => (if r4 = 0 then (self (x1_L12 + 1) z_rows_L12 z_columns_L12) else (bd1 (fX3_rowsTo g x1_L12 z_ship z_cells z_longings) fun r7 => (bd1 (fX3_columnsTo g x1_L12 z_ship z_cells z_longings) fun r9 => (bd1 (fX3_leanOf g x1_L12 ((if 0 ≤ r7 then r7 else 0 - r7) + (if 0 ≤ r9 then r9 else 0 - r9)) z_kinds z_figures z_seas) fun r11 => (bd1 (fJ6_compare_7cf53 g r7 0) fun r13 => (bd1 (fJ6_compare_7cf53 g r9 0) fun r15 => (self (x1_L12 + 1) (z_rows_L12 + (r11 * r13)) (z_columns_L12 + (r11 * r15))))))))))
def fX3_weigh_L12 (g : Nat) (z_hands : Int32) (z_aboard : Int32) (z_ship : Int32) (z_cells : Nat → Int32) (z_kinds : Nat → Int32) (z_figures : Nat → Int32) (z_longings : Nat → Int32) (z_seas : Nat → Int32) (n : Nat) : Int32 → Int32 → Int32 → Option (Int32 × Int32) := lp (fX3_weigh_L12_b g z_hands z_aboard z_ship z_cells z_kinds z_figures z_longings z_seas) (fun _ _ _ => none) n
def fX3_weigh (g : Nat) (z_hands : Int32) (z_aboard : Int32) (z_ship : Int32) (z_cells : Nat → Int32) (z_kinds : Nat → Int32) (z_figures : Nat → Int32) (z_longings : Nat → Int32) (z_seas : Nat → Int32) : Option (Int32 × Int32) := bd2 (fX3_weigh_L12 g z_hands z_aboard z_ship z_cells z_kinds z_figures z_longings z_seas g 0 0 0) fun t17 t18 => (some (t17, t18))
set_option maxHeartbeats 4000000 in
set_option maxRecDepth 100000 in
theorem cX3_weigh (l : Launch) (D : va_G) (cI cJ : ClassId) (sz g : Nat) (a_z a_z_cells a_z_kinds a_z_figures a_z_longings a_z_seas : Nat) (z_places : Int32) (z_hands : Int32) (z_aboard : Int32) (z_ship : Int32) (z_day : Int32) (z_rows : Int32) (z_columns : Int32) (z_cells : Nat → Int32) (z_kinds : Nat → Int32) (z_figures : Nat → Int32) (z_longings : Nat → Int32) (z_seas : Nat → Int32) (n_z_rows : Int32) (n_z_columns : Int32) (hf : fX3_weigh g z_hands z_aboard z_ship z_cells z_kinds z_figures z_longings z_seas = some (n_z_rows, n_z_columns)) : Met l yX3_weigh wsX3_weigh rmX3_weigh (va_Pc [.ref a_z] (sPc D (tyL cI cJ) [(a_z, .inr (3, [.ref a_z_cells, .int z_places, .ref a_z_kinds, .ref a_z_figures, .ref a_z_longings, .ref a_z_seas, .int z_hands, .int z_aboard, .int z_ship, .int z_day, .int z_rows, .int z_columns])), (a_z_cells, .inl (cI, 6, .inl z_cells)), (a_z_kinds, .inl (cI, 7, .inl z_kinds)), (a_z_figures, .inl (cI, 7, .inl z_figures)), (a_z_longings, .inl (cI, 7, .inl z_longings)), (a_z_seas, .inl (cI, 7, .inl z_seas))] sz)) (qV D (tyL cI cJ) [(a_z, .inr (3, [.ref a_z_cells, .int z_places, .ref a_z_kinds, .ref a_z_figures, .ref a_z_longings, .ref a_z_seas, .int z_hands, .int z_aboard, .int z_ship, .int z_day, .int z_rows, .int z_columns])), (a_z_cells, .inl (cI, 6, .inl z_cells)), (a_z_kinds, .inl (cI, 7, .inl z_kinds)), (a_z_figures, .inl (cI, 7, .inl z_figures)), (a_z_longings, .inl (cI, 7, .inl z_longings)), (a_z_seas, .inl (cI, 7, .inl z_seas))] sz [(a_z, .inr (3, [.ref a_z_cells, .int z_places, .ref a_z_kinds, .ref a_z_figures, .ref a_z_longings, .ref a_z_seas, .int z_hands, .int z_aboard, .int z_ship, .int z_day, .int n_z_rows, .int n_z_columns])), (a_z_cells, .inl (cI, 6, .inl z_cells)), (a_z_kinds, .inl (cI, 7, .inl z_kinds)), (a_z_figures, .inl (cI, 7, .inl z_figures)), (a_z_longings, .inl (cI, 7, .inl z_longings)), (a_z_seas, .inl (cI, 7, .inl z_seas))]) 0 0 (va_A [(a_z, .inr (3, [.ref a_z_cells, .int z_places, .ref a_z_kinds, .ref a_z_figures, .ref a_z_longings, .ref a_z_seas, .int z_hands, .int z_aboard, .int z_ship, .int z_day, .int z_rows, .int z_columns])), (a_z_cells, .inl (cI, 6, .inl z_cells)), (a_z_kinds, .inl (cI, 7, .inl z_kinds)), (a_z_figures, .inl (cI, 7, .inl z_figures)), (a_z_longings, .inl (cI, 7, .inl z_longings)), (a_z_seas, .inl (cI, 7, .inl z_seas))] sz) := by
  refine st_v (cc := cX3_weigh) (maxL := 5) (by decide) rfl (Nat.le_of_ble_eq_true rfl) ?_
  intro p e s m args below meth c A Q F hret0 hP hS ls hl
  have F : Cx p s m args c cX3_weigh 5 wsX3_weigh RX3 D (tyL cI cJ) A := F
  have hx := F.1.1
  have hb := F.1.2.1
  have hown := F.1.2.2.2.1
  have hts := F.1.2.2.2.2
  have iX3 : ∀ w ∈ wsX30, w ∈ wsX3_weigh := fun w h => (List.mem_cons_of_mem _ (List.mem_append_right _ h))
  have hret : ∀ (pc : Nat) (H : Heap) (locs : List Loc) (ls : Array Slot) (m_z_rows : Int32) (m_z_columns : Int32), some (m_z_rows, m_z_columns) = some (n_z_rows, n_z_columns) → decode cX3_weigh pc = .ok (.return_, 1) → WD D A [(a_z, .inr (3, [.ref a_z_cells, .int z_places, .ref a_z_kinds, .ref a_z_figures, .ref a_z_longings, .ref a_z_seas, .int z_hands, .int z_aboard, .int z_ship, .int z_day, .int m_z_rows, .int m_z_columns])), (a_z_cells, .inl (cI, 6, .inl z_cells)), (a_z_kinds, .inl (cI, 7, .inl z_kinds)), (a_z_figures, .inl (cI, 7, .inl z_figures)), (a_z_longings, .inl (cI, 7, .inl z_longings)), (a_z_seas, .inl (cI, 7, .inl z_seas))] H → va_S A s.heap H locs → W p l e rmX3_weigh s m args below meth c H locs 0 0 Q (F0 m pc ls []) := by
    intro pc H locs ls m_z_rows m_z_columns h hd hP hS
    cases h
    exact hret0 pc H locs ls hd hP hS
  have L12 : ∀ (n : Nat) (x1_L12 : Int32) (z_rows_L12 : Int32) (z_columns_L12 : Int32) (tt0 : Int32) (tt1 : Int32) (H : Heap) (locs : List Loc) (ls : Array Slot), fX3_weigh_L12 g z_hands z_aboard z_ship z_cells z_kinds z_figures z_longings z_seas n x1_L12 z_rows_L12 z_columns_L12 = some (tt0, tt1) → WD D A [(a_z, .inr (3, [.ref a_z_cells, .int z_places, .ref a_z_kinds, .ref a_z_figures, .ref a_z_longings, .ref a_z_seas, .int z_hands, .int z_aboard, .int z_ship, .int z_day, .int z_rows_L12, .int z_columns_L12])), (a_z_cells, .inl (cI, 6, .inl z_cells)), (a_z_kinds, .inl (cI, 7, .inl z_kinds)), (a_z_figures, .inl (cI, 7, .inl z_figures)), (a_z_longings, .inl (cI, 7, .inl z_longings)), (a_z_seas, .inl (cI, 7, .inl z_seas))] H → va_S A s.heap H locs → lv_has ls 5 [(0, .ref a_z), (1, .int x1_L12)] → (∀ (H : Heap) (locs : List Loc) (ls : Array Slot), WD D A [(a_z, .inr (3, [.ref a_z_cells, .int z_places, .ref a_z_kinds, .ref a_z_figures, .ref a_z_longings, .ref a_z_seas, .int z_hands, .int z_aboard, .int z_ship, .int z_day, .int tt0, .int tt1])), (a_z_cells, .inl (cI, 6, .inl z_cells)), (a_z_kinds, .inl (cI, 7, .inl z_kinds)), (a_z_figures, .inl (cI, 7, .inl z_figures)), (a_z_longings, .inl (cI, 7, .inl z_longings)), (a_z_seas, .inl (cI, 7, .inl z_seas))] H → va_S A s.heap H locs → lv_has ls 5 [] → W p l e rmX3_weigh s m args below meth c H locs 0 0 Q (F0 m 96 ls [])) → W p l e rmX3_weigh s m args below meth c H locs 0 0 Q (F0 m 12 ls []) := by
    intro n
    induction n with
    | zero =>
      intro x1_L12 z_rows_L12 z_columns_L12 tt0 tt1 H locs ls h
      exact (no_some h).elim
    | succ n ih =>
      intro x1_L12 z_rows_L12 z_columns_L12 tt0 tt1 H locs ls h hP hS hl kE
      have h : fX3_weigh_L12_b g z_hands z_aboard z_ship z_cells z_kinds z_figures z_longings z_seas (fX3_weigh_L12 g z_hands z_aboard z_ship z_cells z_kinds z_figures z_longings z_seas n) x1_L12 z_rows_L12 z_columns_L12 = some (tt0, tt1) := h
      unfold fX3_weigh_L12_b at h
      refine lv_iload_n hx hb dX3_weigh_12 rfl (lv_at hl 1 rfl) ?_
      refine lv_aload_n hx hb dX3_weigh_13 rfl (lv_at hl 0 rfl) ?_
      refine gt_X3_31 F iX3 (List.mem_cons_of_mem _ (List.mem_append_left _ (List.mem_append_left _ (List.mem_of_getElem? (i := 2) rfl)))) hP 0 rfl dX3_weigh_14 ?_
      refine lv_icmp_ge (tgt := 96) hx hb dX3_weigh_17 (by decide) (fun hc3 => ?_) (fun hc3 => ?_)
      · have h := it_p hc3 h
        cases h
        exact kE H locs ls hP hS (lv_sub hl [] rfl)
      · have h := it_n hc3 h
        refine lv_aload_n hx hb dX3_weigh_20 rfl (lv_at hl 0 rfl) ?_
        refine lv_iload_n hx hb dX3_weigh_21 rfl (lv_at hl 1 rfl) ?_
        obtain ⟨r4, hk5, h⟩ := bd1_e h
        refine cV_i (rest := []) F (cX3_isAboard l D cI cJ H.size g a_z a_z_cells a_z_kinds a_z_figures a_z_longings a_z_seas z_places z_hands z_aboard z_ship z_day z_rows_L12 z_columns_L12 x1_L12 r4 hk5) (cwV 1 hts gX3_weigh_X3_isAboard rfl rfl rfl eVX3_isAboard ⟨Nat.le_of_ble_eq_true rfl, Nat.le_of_ble_eq_true rfl⟩) [0] hP hS (by decide) rfl rfl 0 rfl rfl rfl hl.1 (Nat.le_of_ble_eq_true rfl) ⟨Nat.le_refl _, Nat.le_refl _⟩ rfl dX3_weigh_22 (fun H locs hP hS => ?_)
        have hP : WD D A [(a_z, .inr (3, [.ref a_z_cells, .int z_places, .ref a_z_kinds, .ref a_z_figures, .ref a_z_longings, .ref a_z_seas, .int z_hands, .int z_aboard, .int z_ship, .int z_day, .int z_rows_L12, .int z_columns_L12])), (a_z_cells, .inl (cI, 6, .inl z_cells)), (a_z_kinds, .inl (cI, 7, .inl z_kinds)), (a_z_figures, .inl (cI, 7, .inl z_figures)), (a_z_longings, .inl (cI, 7, .inl z_longings)), (a_z_seas, .inl (cI, 7, .inl z_seas))] H := hP
        refine lv_if_eq (tgt := 90) hx hb dX3_weigh_25 (by decide) (fun hc6 => ?_) (fun hc6 => ?_)
        · have h := it_p hc6 h
          refine lv_iinc (v := x1_L12 + 1) (lv' := [(1, .int (x1_L12 + 1)), (0, .ref a_z)]) hx hb dX3_weigh_90 hl (k := 1) rfl rfl (by decide) rfl (fun ls hl => ?_)
          refine lv_goto (tgt := 12) hx hb dX3_weigh_93 (by decide) ?_
          exact ih (x1_L12 + 1) z_rows_L12 z_columns_L12 tt0 tt1 H locs ls h hP hS (lv_sub hl [1, 0] rfl) kE
        · have h := it_n hc6 h
          refine lv_aload_n hx hb dX3_weigh_28 rfl (lv_at hl 0 rfl) ?_
          refine lv_iload_n hx hb dX3_weigh_29 rfl (lv_at hl 1 rfl) ?_
          obtain ⟨r7, hk8, h⟩ := bd1_e h
          refine cV_i (rest := []) F (cX3_rowsTo l D cI cJ H.size g a_z a_z_cells a_z_kinds a_z_figures a_z_longings a_z_seas z_places z_hands z_aboard z_ship z_day z_rows_L12 z_columns_L12 z_cells z_longings x1_L12 r7 hk8) (cwV 1 hts gX3_weigh_X3_rowsTo rfl rfl rfl eVX3_rowsTo ⟨Nat.le_of_ble_eq_true rfl, Nat.le_of_ble_eq_true rfl⟩) [0, 1, 4] hP hS (by decide) rfl rfl 0 rfl rfl rfl hl.1 (Nat.le_of_ble_eq_true rfl) ⟨Nat.le_refl _, Nat.le_refl _⟩ rfl dX3_weigh_30 (fun H locs hP hS => ?_)
          have hP : WD D A [(a_z, .inr (3, [.ref a_z_cells, .int z_places, .ref a_z_kinds, .ref a_z_figures, .ref a_z_longings, .ref a_z_seas, .int z_hands, .int z_aboard, .int z_ship, .int z_day, .int z_rows_L12, .int z_columns_L12])), (a_z_cells, .inl (cI, 6, .inl z_cells)), (a_z_kinds, .inl (cI, 7, .inl z_kinds)), (a_z_figures, .inl (cI, 7, .inl z_figures)), (a_z_longings, .inl (cI, 7, .inl z_longings)), (a_z_seas, .inl (cI, 7, .inl z_seas))] H := hP
          refine lv_istore_n (lv' := [(2, .int r7), (0, .ref a_z), (1, .int x1_L12)]) hx hb dX3_weigh_33 rfl hl (by decide) rfl (fun ls hl => ?_)
          refine lv_aload_n hx hb dX3_weigh_34 rfl (lv_at hl 1 rfl) ?_
          refine lv_iload_n hx hb dX3_weigh_35 rfl (lv_at hl 2 rfl) ?_
          obtain ⟨r9, hk10, h⟩ := bd1_e h
          refine cV_i (rest := []) F (cX3_columnsTo l D cI cJ H.size g a_z a_z_cells a_z_kinds a_z_figures a_z_longings a_z_seas z_places z_hands z_aboard z_ship z_day z_rows_L12 z_columns_L12 z_cells z_longings x1_L12 r9 hk10) (cwV 1 hts gX3_weigh_X3_columnsTo rfl rfl rfl eVX3_columnsTo ⟨Nat.le_of_ble_eq_true rfl, Nat.le_of_ble_eq_true rfl⟩) [0, 1, 4] hP hS (by decide) rfl rfl 0 rfl rfl rfl hl.1 (Nat.le_of_ble_eq_true rfl) ⟨Nat.le_refl _, Nat.le_refl _⟩ rfl dX3_weigh_36 (fun H locs hP hS => ?_)
          have hP : WD D A [(a_z, .inr (3, [.ref a_z_cells, .int z_places, .ref a_z_kinds, .ref a_z_figures, .ref a_z_longings, .ref a_z_seas, .int z_hands, .int z_aboard, .int z_ship, .int z_day, .int z_rows_L12, .int z_columns_L12])), (a_z_cells, .inl (cI, 6, .inl z_cells)), (a_z_kinds, .inl (cI, 7, .inl z_kinds)), (a_z_figures, .inl (cI, 7, .inl z_figures)), (a_z_longings, .inl (cI, 7, .inl z_longings)), (a_z_seas, .inl (cI, 7, .inl z_seas))] H := hP
          refine lv_istore_n (lv' := [(3, .int r9), (2, .int r7), (0, .ref a_z), (1, .int x1_L12)]) hx hb dX3_weigh_39 rfl hl (by decide) rfl (fun ls hl => ?_)
          refine lv_aload_n hx hb dX3_weigh_40 rfl (lv_at hl 2 rfl) ?_
          refine lv_iload_n hx hb dX3_weigh_41 rfl (lv_at hl 3 rfl) ?_
          refine lv_iload_n hx hb dX3_weigh_42 rfl (lv_at hl 1 rfl) ?_
          refine r_mabs F hl.1 (List.mem_cons_of_mem _ (List.mem_append_left _ (List.mem_append_left _ (List.mem_of_getElem? (i := 3) rfl)))) (List.mem_cons_of_mem _ (List.mem_append_left _ (List.mem_append_left _ (List.mem_of_getElem? (i := 4) rfl)))) (List.mem_cons_of_mem _ (List.mem_append_left _ (List.mem_append_left _ (List.mem_of_getElem? (i := 5) rfl)))) (List.mem_cons_of_mem _ (List.mem_append_left _ (List.mem_append_left _ (List.mem_of_getElem? (i := 6) rfl)))) (Nat.le_of_ble_eq_true rfl) (Nat.le_of_ble_eq_true rfl) ⟨Nat.le_refl _, Nat.le_refl _⟩ dX3_weigh_43 ?_
          refine lv_iload_n hx hb dX3_weigh_46 rfl (lv_at hl 0 rfl) ?_
          refine r_mabs F hl.1 (List.mem_cons_of_mem _ (List.mem_append_left _ (List.mem_append_left _ (List.mem_of_getElem? (i := 3) rfl)))) (List.mem_cons_of_mem _ (List.mem_append_left _ (List.mem_append_left _ (List.mem_of_getElem? (i := 4) rfl)))) (List.mem_cons_of_mem _ (List.mem_append_left _ (List.mem_append_left _ (List.mem_of_getElem? (i := 5) rfl)))) (List.mem_cons_of_mem _ (List.mem_append_left _ (List.mem_append_left _ (List.mem_of_getElem? (i := 6) rfl)))) (Nat.le_of_ble_eq_true rfl) (Nat.le_of_ble_eq_true rfl) ⟨Nat.le_refl _, Nat.le_refl _⟩ dX3_weigh_47 ?_
          refine lv_iadd hx hb dX3_weigh_50 ?_
          obtain ⟨r11, hk12, h⟩ := bd1_e h
          refine cV_i (rest := []) F (cX3_leanOf l D cI cJ H.size g a_z a_z_cells a_z_kinds a_z_figures a_z_longings a_z_seas z_places z_hands z_aboard z_ship z_day z_rows_L12 z_columns_L12 z_kinds z_figures z_seas x1_L12 ((if 0 ≤ r7 then r7 else 0 - r7) + (if 0 ≤ r9 then r9 else 0 - r9)) r11 hk12) (cwV 2 hts gX3_weigh_X3_leanOf rfl rfl rfl eVX3_leanOf ⟨Nat.le_of_ble_eq_true rfl, Nat.le_of_ble_eq_true rfl⟩) [0, 2, 3, 5] hP hS (by decide) rfl rfl 0 rfl rfl rfl hl.1 (Nat.le_of_ble_eq_true rfl) ⟨Nat.le_refl _, Nat.le_refl _⟩ rfl dX3_weigh_51 (fun H locs hP hS => ?_)
          have hP : WD D A [(a_z, .inr (3, [.ref a_z_cells, .int z_places, .ref a_z_kinds, .ref a_z_figures, .ref a_z_longings, .ref a_z_seas, .int z_hands, .int z_aboard, .int z_ship, .int z_day, .int z_rows_L12, .int z_columns_L12])), (a_z_cells, .inl (cI, 6, .inl z_cells)), (a_z_kinds, .inl (cI, 7, .inl z_kinds)), (a_z_figures, .inl (cI, 7, .inl z_figures)), (a_z_longings, .inl (cI, 7, .inl z_longings)), (a_z_seas, .inl (cI, 7, .inl z_seas))] H := hP
          refine lv_istore (lv' := [(4, .int r11), (3, .int r9), (2, .int r7), (0, .ref a_z), (1, .int x1_L12)]) hx hb dX3_weigh_54 hl (by decide) rfl (fun ls hl => ?_)
          refine lv_aload_n hx hb dX3_weigh_56 rfl (lv_at hl 3 rfl) ?_
          refine lv_dup hx hb dX3_weigh_57 rfl ?_
          refine gt_X3_77 F iX3 (List.mem_cons_of_mem _ (List.mem_append_left _ (List.mem_append_left _ (List.mem_of_getElem? (i := 0) rfl)))) hP 0 rfl dX3_weigh_58 ?_
          refine lv_iload hx hb dX3_weigh_61 (lv_at hl 0 rfl) ?_
          refine lv_iload_n hx hb dX3_weigh_63 rfl (lv_at hl 2 rfl) ?_
          refine lv_iconst (v := 0) hx hb dX3_weigh_64 (by decide) ?_
          obtain ⟨r13, hk14, h⟩ := bd1_e h
          refine cS_i (rest := [.int r11, .int z_rows_L12, .ref a_z]) F (cJ6_compare_7cf53 l D cI cJ H.size g r7 0 r13 hk14) (va_cwS 2 hts gX3_weigh_J6_compare_7cf53 rfl rfl rfl eSJ6_compare_7cf53 ⟨Nat.le_of_ble_eq_true rfl, Nat.le_of_ble_eq_true rfl⟩) [] hP hS (by decide) rfl rfl rfl hl.1 (Nat.le_of_ble_eq_true rfl) ⟨Nat.le_refl _, Nat.le_refl _⟩ rfl dX3_weigh_65 (fun H locs hP hS => ?_)
          have hP : WD D A [(a_z, .inr (3, [.ref a_z_cells, .int z_places, .ref a_z_kinds, .ref a_z_figures, .ref a_z_longings, .ref a_z_seas, .int z_hands, .int z_aboard, .int z_ship, .int z_day, .int z_rows_L12, .int z_columns_L12])), (a_z_cells, .inl (cI, 6, .inl z_cells)), (a_z_kinds, .inl (cI, 7, .inl z_kinds)), (a_z_figures, .inl (cI, 7, .inl z_figures)), (a_z_longings, .inl (cI, 7, .inl z_longings)), (a_z_seas, .inl (cI, 7, .inl z_seas))] H := hP
          refine lv_imul hx hb dX3_weigh_68 ?_
          refine lv_iadd hx hb dX3_weigh_69 ?_
          refine pt_X3_77 F iX3 (List.mem_cons_of_mem _ (List.mem_append_left _ (List.mem_append_left _ (List.mem_of_getElem? (i := 0) rfl)))) hP hS 0 rfl dX3_weigh_70 (fun H locs hP hS => ?_)
          have hP : WD D A [(a_z, .inr (3, [.ref a_z_cells, .int z_places, .ref a_z_kinds, .ref a_z_figures, .ref a_z_longings, .ref a_z_seas, .int z_hands, .int z_aboard, .int z_ship, .int z_day, .int (z_rows_L12 + (r11 * r13)), .int z_columns_L12])), (a_z_cells, .inl (cI, 6, .inl z_cells)), (a_z_kinds, .inl (cI, 7, .inl z_kinds)), (a_z_figures, .inl (cI, 7, .inl z_figures)), (a_z_longings, .inl (cI, 7, .inl z_longings)), (a_z_seas, .inl (cI, 7, .inl z_seas))] H := hP
          refine lv_aload_n hx hb dX3_weigh_73 rfl (lv_at hl 3 rfl) ?_
          refine lv_dup hx hb dX3_weigh_74 rfl ?_
          refine gt_X3_80 F iX3 (List.mem_cons_of_mem _ (List.mem_append_left _ (List.mem_append_left _ (List.mem_of_getElem? (i := 1) rfl)))) hP 0 rfl dX3_weigh_75 ?_
          refine lv_iload hx hb dX3_weigh_78 (lv_at hl 0 rfl) ?_
          refine lv_iload_n hx hb dX3_weigh_80 rfl (lv_at hl 1 rfl) ?_
          refine lv_iconst (v := 0) hx hb dX3_weigh_81 (by decide) ?_
          obtain ⟨r15, hk16, h⟩ := bd1_e h
          refine cS_i (rest := [.int r11, .int z_columns_L12, .ref a_z]) F (cJ6_compare_7cf53 l D cI cJ H.size g r9 0 r15 hk16) (va_cwS 2 hts gX3_weigh_J6_compare_7cf53 rfl rfl rfl eSJ6_compare_7cf53 ⟨Nat.le_of_ble_eq_true rfl, Nat.le_of_ble_eq_true rfl⟩) [] hP hS (by decide) rfl rfl rfl hl.1 (Nat.le_of_ble_eq_true rfl) ⟨Nat.le_refl _, Nat.le_refl _⟩ rfl dX3_weigh_82 (fun H locs hP hS => ?_)
          have hP : WD D A [(a_z, .inr (3, [.ref a_z_cells, .int z_places, .ref a_z_kinds, .ref a_z_figures, .ref a_z_longings, .ref a_z_seas, .int z_hands, .int z_aboard, .int z_ship, .int z_day, .int (z_rows_L12 + (r11 * r13)), .int z_columns_L12])), (a_z_cells, .inl (cI, 6, .inl z_cells)), (a_z_kinds, .inl (cI, 7, .inl z_kinds)), (a_z_figures, .inl (cI, 7, .inl z_figures)), (a_z_longings, .inl (cI, 7, .inl z_longings)), (a_z_seas, .inl (cI, 7, .inl z_seas))] H := hP
          refine lv_imul hx hb dX3_weigh_85 ?_
          refine lv_iadd hx hb dX3_weigh_86 ?_
          refine pt_X3_80 F iX3 (List.mem_cons_of_mem _ (List.mem_append_left _ (List.mem_append_left _ (List.mem_of_getElem? (i := 1) rfl)))) hP hS 0 rfl dX3_weigh_87 (fun H locs hP hS => ?_)
          have hP : WD D A [(a_z, .inr (3, [.ref a_z_cells, .int z_places, .ref a_z_kinds, .ref a_z_figures, .ref a_z_longings, .ref a_z_seas, .int z_hands, .int z_aboard, .int z_ship, .int z_day, .int (z_rows_L12 + (r11 * r13)), .int (z_columns_L12 + (r11 * r15))])), (a_z_cells, .inl (cI, 6, .inl z_cells)), (a_z_kinds, .inl (cI, 7, .inl z_kinds)), (a_z_figures, .inl (cI, 7, .inl z_figures)), (a_z_longings, .inl (cI, 7, .inl z_longings)), (a_z_seas, .inl (cI, 7, .inl z_seas))] H := hP
          refine lv_iinc (v := x1_L12 + 1) (lv' := [(1, .int (x1_L12 + 1)), (4, .int r11), (3, .int r9), (2, .int r7), (0, .ref a_z)]) hx hb dX3_weigh_90 hl (k := 4) rfl rfl (by decide) rfl (fun ls hl => ?_)
          refine lv_goto (tgt := 12) hx hb dX3_weigh_93 (by decide) ?_
          exact ih (x1_L12 + 1) (z_rows_L12 + (r11 * r13)) (z_columns_L12 + (r11 * r15)) tt0 tt1 H locs ls h hP hS (lv_sub hl [4, 0] rfl) kE
  have hl : lv_has ls 5 [(0, .ref a_z)] := hl
  have h := hf
  unfold fX3_weigh at h
  refine lv_aload_n hx hb dX3_weigh_0 rfl (lv_at hl 0 rfl) ?_
  refine lv_iconst (v := 0) hx hb dX3_weigh_1 (by decide) ?_
  refine pt_X3_77 F iX3 (List.mem_cons_of_mem _ (List.mem_append_left _ (List.mem_append_left _ (List.mem_of_getElem? (i := 0) rfl)))) hP hS 0 rfl dX3_weigh_2 (fun H locs hP hS => ?_)
  have hP : WD D A [(a_z, .inr (3, [.ref a_z_cells, .int z_places, .ref a_z_kinds, .ref a_z_figures, .ref a_z_longings, .ref a_z_seas, .int z_hands, .int z_aboard, .int z_ship, .int z_day, .int 0, .int z_columns])), (a_z_cells, .inl (cI, 6, .inl z_cells)), (a_z_kinds, .inl (cI, 7, .inl z_kinds)), (a_z_figures, .inl (cI, 7, .inl z_figures)), (a_z_longings, .inl (cI, 7, .inl z_longings)), (a_z_seas, .inl (cI, 7, .inl z_seas))] H := hP
  refine lv_aload_n hx hb dX3_weigh_5 rfl (lv_at hl 0 rfl) ?_
  refine lv_iconst (v := 0) hx hb dX3_weigh_6 (by decide) ?_
  refine pt_X3_80 F iX3 (List.mem_cons_of_mem _ (List.mem_append_left _ (List.mem_append_left _ (List.mem_of_getElem? (i := 1) rfl)))) hP hS 0 rfl dX3_weigh_7 (fun H locs hP hS => ?_)
  have hP : WD D A [(a_z, .inr (3, [.ref a_z_cells, .int z_places, .ref a_z_kinds, .ref a_z_figures, .ref a_z_longings, .ref a_z_seas, .int z_hands, .int z_aboard, .int z_ship, .int z_day, .int 0, .int 0])), (a_z_cells, .inl (cI, 6, .inl z_cells)), (a_z_kinds, .inl (cI, 7, .inl z_kinds)), (a_z_figures, .inl (cI, 7, .inl z_figures)), (a_z_longings, .inl (cI, 7, .inl z_longings)), (a_z_seas, .inl (cI, 7, .inl z_seas))] H := hP
  refine lv_iconst (v := 0) hx hb dX3_weigh_10 (by decide) ?_
  refine lv_istore_n (lv' := [(1, .int 0), (0, .ref a_z)]) hx hb dX3_weigh_11 rfl hl (by decide) rfl (fun ls hl => ?_)
  obtain ⟨t17, t18, hk19, h⟩ := bd2_e h
  refine L12 g 0 0 0 t17 t18 H locs ls hk19 hP hS (lv_sub hl [1, 0] rfl) (fun H locs ls hP hS hl => ?_)
  exact hret 96 H locs ls t17 t18 h dX3_weigh_96 hP hS
