theorem eSX4_steps : yX4_steps.cls ≠ "java/lang/invoke/MethodHandle" ∧ yX4_steps.cls ≠ "java/lang/invoke/VarHandle" ∧ (parseMethodDescriptor yX4_steps.desc).map (fun d => d.parameters.length) = some 2 := by decide +kernel
theorem eVX4_steps : yX4_steps.cls = RX4 ∧ yX4_steps.cls ≠ "java/lang/invoke/MethodHandle" ∧ yX4_steps.cls ≠ "java/lang/invoke/VarHandle" ∧ (parseMethodDescriptor yX4_steps.desc).map (fun d => d.parameters.length) = some 2 := ⟨rfl, eSX4_steps⟩
abbrev rmX4_steps : Room := { frames := 1, cells := 0, slots := 0, locals := 20 }
def fX4_steps (g : Nat) (p0 : Int32) (p1 : Int32) : Option (Int32) := bd1 (fX4_rowOf g p0) fun r9 => (bd1 (fX4_rowOf g p1) fun r11 => (bd1 (fX4_columnOf g p0) fun r13 => (bd1 (fX4_columnOf g p1) fun r15 => (some ((if 0 ≤ (r9 - r11) then (r9 - r11) else 0 - (r9 - r11)) + (if 0 ≤ (r13 - r15) then (r13 - r15) else 0 - (r13 - r15)))))))
set_option maxHeartbeats 4000000 in
set_option maxRecDepth 100000 in
theorem kX4_steps (l : Launch) (D : va_G) (cI cJ : ClassId) (sz g : Nat) (p0 : Int32) (p1 : Int32) (r : Int32) (hf : fX4_steps g p0 p1 = some r) : Met l yX4_steps wsX4_steps rmX4_steps (va_Pc [.int p0, .int p1] (sPc D (tyL cI cJ) [] sz)) (qI D (tyL cI cJ) [] sz [] r) 0 0 (va_A [] sz) := by
  refine st_i (cc := cX4_steps) (maxL := 2) (by decide) rfl (Nat.le_of_ble_eq_true rfl) ?_
  intro p e s m args below meth c A Q F hret0 H locs hP hS ls hl
  have F : Cx p s m args c cX4_steps 2 wsX4_steps RX4 D (tyL cI cJ) A := F
  have hx := F.1.1
  have hb := F.1.2.1
  have hown := F.1.2.2.2.1
  have hts := F.1.2.2.2.2
  have hret : ∀ (pc : Nat) (H : Heap) (locs : List Loc) (ls : Array Slot) (r' : Int32), some r' = some r → narrow .int (.int r') = .int r' → decode cX4_steps pc = .ok (.ireturn, 1) → WD D A [] H → va_S A s.heap H locs → W p l e rmX4_steps s m args below meth c H locs 0 0 Q (F0 m pc ls [.int r']) := by
    intro pc H locs ls r' h hn hd hP hS
    cases h
    exact hret0 pc H locs ls hn hd hP hS
  have hl : lv_has ls 2 [(0, .int p0), (1, .int p1)] := hl
  have h := hf
  unfold fX4_steps at h
  refine lv_iload_n hx hb dX4_steps_0 rfl (lv_at hl 0 rfl) ?_
  obtain ⟨r9, hk10, h⟩ := bd1_e h
  refine cS_i (rest := []) F (kX4_rowOf l D cI cJ H.size g p0 r9 hk10) (va_cwS 1 hts gX4_steps_X4_rowOf rfl rfl rfl eSX4_rowOf ⟨Nat.le_of_ble_eq_true rfl, Nat.le_of_ble_eq_true rfl⟩) [] hP hS (by decide) rfl rfl rfl hl.1 (Nat.le_of_ble_eq_true rfl) ⟨Nat.le_refl _, Nat.le_refl _⟩ rfl dX4_steps_1 (fun H locs hP hS => ?_)
  have hP : WD D A [] H := hP
  refine lv_iload_n hx hb dX4_steps_4 rfl (lv_at hl 1 rfl) ?_
  obtain ⟨r11, hk12, h⟩ := bd1_e h
  refine cS_i (rest := [.int r9]) F (kX4_rowOf l D cI cJ H.size g p1 r11 hk12) (va_cwS 1 hts gX4_steps_X4_rowOf rfl rfl rfl eSX4_rowOf ⟨Nat.le_of_ble_eq_true rfl, Nat.le_of_ble_eq_true rfl⟩) [] hP hS (by decide) rfl rfl rfl hl.1 (Nat.le_of_ble_eq_true rfl) ⟨Nat.le_refl _, Nat.le_refl _⟩ rfl dX4_steps_5 (fun H locs hP hS => ?_)
  have hP : WD D A [] H := hP
  refine lv_isub hx hb dX4_steps_8 ?_
  refine r_mabs F hl.1 (List.mem_cons_of_mem _ (List.mem_of_getElem? (i := 0) rfl)) (List.mem_cons_of_mem _ (List.mem_of_getElem? (i := 1) rfl)) (List.mem_cons_of_mem _ (List.mem_of_getElem? (i := 2) rfl)) (List.mem_cons_of_mem _ (List.mem_of_getElem? (i := 3) rfl)) (Nat.le_of_ble_eq_true rfl) (Nat.le_of_ble_eq_true rfl) ⟨Nat.le_refl _, Nat.le_refl _⟩ dX4_steps_9 ?_
  refine lv_iload_n hx hb dX4_steps_12 rfl (lv_at hl 0 rfl) ?_
  obtain ⟨r13, hk14, h⟩ := bd1_e h
  refine cS_i (rest := [.int (if 0 ≤ (r9 - r11) then (r9 - r11) else 0 - (r9 - r11))]) F (kX4_columnOf l D cI cJ H.size g p0 r13 hk14) (va_cwS 1 hts gX4_steps_X4_columnOf rfl rfl rfl eSX4_columnOf ⟨Nat.le_of_ble_eq_true rfl, Nat.le_of_ble_eq_true rfl⟩) [] hP hS (by decide) rfl rfl rfl hl.1 (Nat.le_of_ble_eq_true rfl) ⟨Nat.le_refl _, Nat.le_refl _⟩ rfl dX4_steps_13 (fun H locs hP hS => ?_)
  have hP : WD D A [] H := hP
  refine lv_iload_n hx hb dX4_steps_16 rfl (lv_at hl 1 rfl) ?_
  obtain ⟨r15, hk16, h⟩ := bd1_e h
  refine cS_i (rest := [.int r13, .int (if 0 ≤ (r9 - r11) then (r9 - r11) else 0 - (r9 - r11))]) F (kX4_columnOf l D cI cJ H.size g p1 r15 hk16) (va_cwS 1 hts gX4_steps_X4_columnOf rfl rfl rfl eSX4_columnOf ⟨Nat.le_of_ble_eq_true rfl, Nat.le_of_ble_eq_true rfl⟩) [] hP hS (by decide) rfl rfl rfl hl.1 (Nat.le_of_ble_eq_true rfl) ⟨Nat.le_refl _, Nat.le_refl _⟩ rfl dX4_steps_17 (fun H locs hP hS => ?_)
  have hP : WD D A [] H := hP
  refine lv_isub hx hb dX4_steps_20 ?_
  refine r_mabs F hl.1 (List.mem_cons_of_mem _ (List.mem_of_getElem? (i := 0) rfl)) (List.mem_cons_of_mem _ (List.mem_of_getElem? (i := 1) rfl)) (List.mem_cons_of_mem _ (List.mem_of_getElem? (i := 2) rfl)) (List.mem_cons_of_mem _ (List.mem_of_getElem? (i := 3) rfl)) (Nat.le_of_ble_eq_true rfl) (Nat.le_of_ble_eq_true rfl) ⟨Nat.le_refl _, Nat.le_refl _⟩ dX4_steps_21 ?_
  refine lv_iadd hx hb dX4_steps_24 ?_
  exact hret 25 H locs ls ((if 0 ≤ (r9 - r11) then (r9 - r11) else 0 - (r9 - r11)) + (if 0 ≤ (r13 - r15) then (r13 - r15) else 0 - (r13 - r15))) h rfl dX4_steps_25 hP hS
theorem eSX3_stepsTo : yX3_stepsTo.cls ≠ "java/lang/invoke/MethodHandle" ∧ yX3_stepsTo.cls ≠ "java/lang/invoke/VarHandle" ∧ (parseMethodDescriptor yX3_stepsTo.desc).map (fun d => d.parameters.length) = some 1 := by decide +kernel
theorem eVX3_stepsTo : yX3_stepsTo.cls = RX3 ∧ yX3_stepsTo.cls ≠ "java/lang/invoke/MethodHandle" ∧ yX3_stepsTo.cls ≠ "java/lang/invoke/VarHandle" ∧ (parseMethodDescriptor yX3_stepsTo.desc).map (fun d => d.parameters.length) = some 1 := ⟨rfl, eSX3_stepsTo⟩
abbrev rmX3_stepsTo : Room := { frames := 2, cells := 0, slots := 0, locals := 41 }
def fX3_stepsTo (g : Nat) (p0 : Int32) (z_ship : Int32) (z_cells : Nat → Int32) : Option (Int32) := gd (inB p0 6) (bd1 (fX4_steps g z_ship (z_cells p0.toNatClampNeg)) fun r5 => (some r5))
set_option maxHeartbeats 4000000 in
set_option maxRecDepth 100000 in
theorem kX3_stepsTo (l : Launch) (D : va_G) (cI cJ : ClassId) (sz g : Nat) (a_z a_z_cells a_z_kinds a_z_figures a_z_longings a_z_seas : Nat) (z_places : Int32) (z_hands : Int32) (z_aboard : Int32) (z_ship : Int32) (z_day : Int32) (z_rows : Int32) (z_columns : Int32) (z_cells : Nat → Int32) (p0 : Int32) (r : Int32) (hf : fX3_stepsTo g p0 z_ship z_cells = some r) : Met l yX3_stepsTo wsX3_stepsTo rmX3_stepsTo (va_Pc [.ref a_z, .int p0] (sPc D (tyL cI cJ) [(a_z, .inr (3, [.ref a_z_cells, .int z_places, .ref a_z_kinds, .ref a_z_figures, .ref a_z_longings, .ref a_z_seas, .int z_hands, .int z_aboard, .int z_ship, .int z_day, .int z_rows, .int z_columns])), (a_z_cells, .inl (cI, 6, .inl z_cells))] sz)) (qI D (tyL cI cJ) [(a_z, .inr (3, [.ref a_z_cells, .int z_places, .ref a_z_kinds, .ref a_z_figures, .ref a_z_longings, .ref a_z_seas, .int z_hands, .int z_aboard, .int z_ship, .int z_day, .int z_rows, .int z_columns])), (a_z_cells, .inl (cI, 6, .inl z_cells))] sz [(a_z, .inr (3, [.ref a_z_cells, .int z_places, .ref a_z_kinds, .ref a_z_figures, .ref a_z_longings, .ref a_z_seas, .int z_hands, .int z_aboard, .int z_ship, .int z_day, .int z_rows, .int z_columns])), (a_z_cells, .inl (cI, 6, .inl z_cells))] r) 0 0 (va_A [(a_z, .inr (3, [.ref a_z_cells, .int z_places, .ref a_z_kinds, .ref a_z_figures, .ref a_z_longings, .ref a_z_seas, .int z_hands, .int z_aboard, .int z_ship, .int z_day, .int z_rows, .int z_columns])), (a_z_cells, .inl (cI, 6, .inl z_cells))] sz) := by
  refine st_i (cc := cX3_stepsTo) (maxL := 2) (by decide) rfl (Nat.le_of_ble_eq_true rfl) ?_
  intro p e s m args below meth c A Q F hret0 H locs hP hS ls hl
  have F : Cx p s m args c cX3_stepsTo 2 wsX3_stepsTo RX3 D (tyL cI cJ) A := F
  have hx := F.1.1
  have hb := F.1.2.1
  have hown := F.1.2.2.2.1
  have hts := F.1.2.2.2.2
  have iX3 : ∀ w ∈ wsX30, w ∈ wsX3_stepsTo := fun w h => (List.mem_cons_of_mem _ (List.mem_append_right _ h))
  have hret : ∀ (pc : Nat) (H : Heap) (locs : List Loc) (ls : Array Slot) (r' : Int32), some r' = some r → narrow .int (.int r') = .int r' → decode cX3_stepsTo pc = .ok (.ireturn, 1) → WD D A [(a_z, .inr (3, [.ref a_z_cells, .int z_places, .ref a_z_kinds, .ref a_z_figures, .ref a_z_longings, .ref a_z_seas, .int z_hands, .int z_aboard, .int z_ship, .int z_day, .int z_rows, .int z_columns])), (a_z_cells, .inl (cI, 6, .inl z_cells))] H → va_S A s.heap H locs → W p l e rmX3_stepsTo s m args below meth c H locs 0 0 Q (F0 m pc ls [.int r']) := by
    intro pc H locs ls r' h hn hd hP hS
    cases h
    exact hret0 pc H locs ls hn hd hP hS
  have hl : lv_has ls 2 [(0, .ref a_z), (1, .int p0)] := hl
  have h := hf
  unfold fX3_stepsTo at h
  refine lv_aload_n hx hb dX3_stepsTo_0 rfl (lv_at hl 0 rfl) ?_
  refine gt_X3_37 F iX3 (List.mem_cons_of_mem _ (List.mem_append_left _ (List.mem_of_getElem? (i := 0) rfl))) hP 0 rfl dX3_stepsTo_1 ?_
  refine lv_aload_n hx hb dX3_stepsTo_4 rfl (lv_at hl 0 rfl) ?_
  refine gt_X3_9 F iX3 (List.mem_cons_of_mem _ (List.mem_append_left _ (List.mem_of_getElem? (i := 1) rfl))) hP 0 rfl dX3_stepsTo_5 ?_
  refine lv_iload_n hx hb dX3_stepsTo_8 rfl (lv_at hl 1 rfl) ?_
  obtain ⟨hg4, h⟩ := gd_e h
  refine r_ia F hP 1 rfl rfl hg4 dX3_stepsTo_9 ?_
  obtain ⟨r5, hk6, h⟩ := bd1_e h
  refine cN_i (rest := []) F (kX4_steps l D cI cJ H.size g z_ship (z_cells p0.toNatClampNeg) r5 hk6) ⟨va_cnB 2 hts gX3_stepsTo_X4_steps_n53 rfl rfl rfl (F.2.2.1.m 7 rfl) (hts (.initialized RX4) (List.mem_cons_of_mem _ (List.mem_append_left _ (List.mem_of_getElem? (i := 3) rfl)))) eSX4_steps ⟨Nat.le_of_ble_eq_true rfl, Nat.le_of_ble_eq_true rfl⟩, hts (.static yX4_steps) (List.mem_cons_of_mem _ (List.mem_append_left _ (List.mem_of_getElem? (i := 2) rfl))), trivial⟩ [] hP hS (by decide) rfl rfl rfl hl.1 (Nat.le_of_ble_eq_true rfl) ⟨Nat.le_refl _, Nat.le_refl _⟩ rfl dX3_stepsTo_10 (fun H locs hP hS => ?_)
  have hP : WD D A [(a_z, .inr (3, [.ref a_z_cells, .int z_places, .ref a_z_kinds, .ref a_z_figures, .ref a_z_longings, .ref a_z_seas, .int z_hands, .int z_aboard, .int z_ship, .int z_day, .int z_rows, .int z_columns])), (a_z_cells, .inl (cI, 6, .inl z_cells))] H := hP
  exact hret 13 H locs ls r5 h rfl dX3_stepsTo_13 hP hS
theorem eSX3_leanNow : yX3_leanNow.cls ≠ "java/lang/invoke/MethodHandle" ∧ yX3_leanNow.cls ≠ "java/lang/invoke/VarHandle" ∧ (parseMethodDescriptor yX3_leanNow.desc).map (fun d => d.parameters.length) = some 1 := by decide +kernel
theorem eVX3_leanNow : yX3_leanNow.cls = RX3 ∧ yX3_leanNow.cls ≠ "java/lang/invoke/MethodHandle" ∧ yX3_leanNow.cls ≠ "java/lang/invoke/VarHandle" ∧ (parseMethodDescriptor yX3_leanNow.desc).map (fun d => d.parameters.length) = some 1 := ⟨rfl, eSX3_leanNow⟩
abbrev rmX3_leanNow : Room := { frames := 3, cells := 0, slots := 0, locals := 62 }
def fX3_leanNow (g : Nat) (p0 : Int32) (z_ship : Int32) (z_cells : Nat → Int32) (z_kinds : Nat → Int32) (z_figures : Nat → Int32) (z_longings : Nat → Int32) (z_seas : Nat → Int32) : Option (Int32) := gd (inB p0 7) (bd1 (fX3_stepsTo g (z_longings p0.toNatClampNeg) z_ship z_cells) fun r7 => (bd1 (fX3_leanOf g p0 r7 z_kinds z_figures z_seas) fun r9 => (some r9)))
set_option maxHeartbeats 4000000 in
set_option maxRecDepth 100000 in
theorem kX3_leanNow (l : Launch) (D : va_G) (cI cJ : ClassId) (sz g : Nat) (a_z a_z_cells a_z_kinds a_z_figures a_z_longings a_z_seas : Nat) (z_places : Int32) (z_hands : Int32) (z_aboard : Int32) (z_ship : Int32) (z_day : Int32) (z_rows : Int32) (z_columns : Int32) (z_cells : Nat → Int32) (z_kinds : Nat → Int32) (z_figures : Nat → Int32) (z_longings : Nat → Int32) (z_seas : Nat → Int32) (p0 : Int32) (r : Int32) (hf : fX3_leanNow g p0 z_ship z_cells z_kinds z_figures z_longings z_seas = some r) : Met l yX3_leanNow wsX3_leanNow rmX3_leanNow (va_Pc [.ref a_z, .int p0] (sPc D (tyL cI cJ) [(a_z, .inr (3, [.ref a_z_cells, .int z_places, .ref a_z_kinds, .ref a_z_figures, .ref a_z_longings, .ref a_z_seas, .int z_hands, .int z_aboard, .int z_ship, .int z_day, .int z_rows, .int z_columns])), (a_z_cells, .inl (cI, 6, .inl z_cells)), (a_z_kinds, .inl (cI, 7, .inl z_kinds)), (a_z_figures, .inl (cI, 7, .inl z_figures)), (a_z_longings, .inl (cI, 7, .inl z_longings)), (a_z_seas, .inl (cI, 7, .inl z_seas))] sz)) (qI D (tyL cI cJ) [(a_z, .inr (3, [.ref a_z_cells, .int z_places, .ref a_z_kinds, .ref a_z_figures, .ref a_z_longings, .ref a_z_seas, .int z_hands, .int z_aboard, .int z_ship, .int z_day, .int z_rows, .int z_columns])), (a_z_cells, .inl (cI, 6, .inl z_cells)), (a_z_kinds, .inl (cI, 7, .inl z_kinds)), (a_z_figures, .inl (cI, 7, .inl z_figures)), (a_z_longings, .inl (cI, 7, .inl z_longings)), (a_z_seas, .inl (cI, 7, .inl z_seas))] sz [(a_z, .inr (3, [.ref a_z_cells, .int z_places, .ref a_z_kinds, .ref a_z_figures, .ref a_z_longings, .ref a_z_seas, .int z_hands, .int z_aboard, .int z_ship, .int z_day, .int z_rows, .int z_columns])), (a_z_cells, .inl (cI, 6, .inl z_cells)), (a_z_kinds, .inl (cI, 7, .inl z_kinds)), (a_z_figures, .inl (cI, 7, .inl z_figures)), (a_z_longings, .inl (cI, 7, .inl z_longings)), (a_z_seas, .inl (cI, 7, .inl z_seas))] r) 0 0 (va_A [(a_z, .inr (3, [.ref a_z_cells, .int z_places, .ref a_z_kinds, .ref a_z_figures, .ref a_z_longings, .ref a_z_seas, .int z_hands, .int z_aboard, .int z_ship, .int z_day, .int z_rows, .int z_columns])), (a_z_cells, .inl (cI, 6, .inl z_cells)), (a_z_kinds, .inl (cI, 7, .inl z_kinds)), (a_z_figures, .inl (cI, 7, .inl z_figures)), (a_z_longings, .inl (cI, 7, .inl z_longings)), (a_z_seas, .inl (cI, 7, .inl z_seas))] sz) := by
  refine st_i (cc := cX3_leanNow) (maxL := 2) (by decide) rfl (Nat.le_of_ble_eq_true rfl) ?_
  intro p e s m args below meth c A Q F hret0 H locs hP hS ls hl
  have F : Cx p s m args c cX3_leanNow 2 wsX3_leanNow RX3 D (tyL cI cJ) A := F
  have hx := F.1.1
  have hb := F.1.2.1
  have hown := F.1.2.2.2.1
  have hts := F.1.2.2.2.2
  have iX3 : ∀ w ∈ wsX30, w ∈ wsX3_leanNow := fun w h => (List.mem_cons_of_mem _ (List.mem_append_right _ h))
  have hret : ∀ (pc : Nat) (H : Heap) (locs : List Loc) (ls : Array Slot) (r' : Int32), some r' = some r → narrow .int (.int r') = .int r' → decode cX3_leanNow pc = .ok (.ireturn, 1) → WD D A [(a_z, .inr (3, [.ref a_z_cells, .int z_places, .ref a_z_kinds, .ref a_z_figures, .ref a_z_longings, .ref a_z_seas, .int z_hands, .int z_aboard, .int z_ship, .int z_day, .int z_rows, .int z_columns])), (a_z_cells, .inl (cI, 6, .inl z_cells)), (a_z_kinds, .inl (cI, 7, .inl z_kinds)), (a_z_figures, .inl (cI, 7, .inl z_figures)), (a_z_longings, .inl (cI, 7, .inl z_longings)), (a_z_seas, .inl (cI, 7, .inl z_seas))] H → va_S A s.heap H locs → W p l e rmX3_leanNow s m args below meth c H locs 0 0 Q (F0 m pc ls [.int r']) := by
    intro pc H locs ls r' h hn hd hP hS
    cases h
    exact hret0 pc H locs ls hn hd hP hS
  have hl : lv_has ls 2 [(0, .ref a_z), (1, .int p0)] := hl
  have h := hf
  unfold fX3_leanNow at h
  refine lv_aload_n hx hb dX3_leanNow_0 rfl (lv_at hl 0 rfl) ?_
  refine lv_iload_n hx hb dX3_leanNow_1 rfl (lv_at hl 1 rfl) ?_
  refine lv_aload_n hx hb dX3_leanNow_2 rfl (lv_at hl 0 rfl) ?_
  refine lv_aload_n hx hb dX3_leanNow_3 rfl (lv_at hl 0 rfl) ?_
  refine gt_X3_21 F iX3 (List.mem_cons_of_mem _ (List.mem_append_left _ (List.mem_append_left _ (List.mem_of_getElem? (i := 0) rfl)))) hP 0 rfl dX3_leanNow_4 ?_
  refine lv_iload_n hx hb dX3_leanNow_7 rfl (lv_at hl 1 rfl) ?_
  obtain ⟨hg6, h⟩ := gd_e h
  refine r_ia F hP 4 rfl rfl hg6 dX3_leanNow_8 ?_
  obtain ⟨r7, hk8, h⟩ := bd1_e h
  refine cV_i (rest := [.int p0, .ref a_z]) F (kX3_stepsTo l D cI cJ H.size g a_z a_z_cells a_z_kinds a_z_figures a_z_longings a_z_seas z_places z_hands z_aboard z_ship z_day z_rows z_columns z_cells (z_longings p0.toNatClampNeg) r7 hk8) (cwV 1 hts gX3_leanNow_X3_stepsTo rfl rfl rfl eVX3_stepsTo ⟨Nat.le_of_ble_eq_true rfl, Nat.le_of_ble_eq_true rfl⟩) [0, 1] hP hS (by decide) rfl rfl 0 rfl rfl rfl hl.1 (Nat.le_of_ble_eq_true rfl) ⟨Nat.le_refl _, Nat.le_refl _⟩ rfl dX3_leanNow_9 (fun H locs hP hS => ?_)
  have hP : WD D A [(a_z, .inr (3, [.ref a_z_cells, .int z_places, .ref a_z_kinds, .ref a_z_figures, .ref a_z_longings, .ref a_z_seas, .int z_hands, .int z_aboard, .int z_ship, .int z_day, .int z_rows, .int z_columns])), (a_z_cells, .inl (cI, 6, .inl z_cells)), (a_z_kinds, .inl (cI, 7, .inl z_kinds)), (a_z_figures, .inl (cI, 7, .inl z_figures)), (a_z_longings, .inl (cI, 7, .inl z_longings)), (a_z_seas, .inl (cI, 7, .inl z_seas))] H := hP
  obtain ⟨r9, hk10, h⟩ := bd1_e h
  refine cV_i (rest := []) F (kX3_leanOf l D cI cJ H.size g a_z a_z_cells a_z_kinds a_z_figures a_z_longings a_z_seas z_places z_hands z_aboard z_ship z_day z_rows z_columns z_kinds z_figures z_seas p0 r7 r9 hk10) (cwV 2 hts gX3_leanNow_X3_leanOf rfl rfl rfl eVX3_leanOf ⟨Nat.le_of_ble_eq_true rfl, Nat.le_of_ble_eq_true rfl⟩) [0, 2, 3, 5] hP hS (by decide) rfl rfl 0 rfl rfl rfl hl.1 (Nat.le_of_ble_eq_true rfl) ⟨Nat.le_refl _, Nat.le_refl _⟩ rfl dX3_leanNow_12 (fun H locs hP hS => ?_)
  have hP : WD D A [(a_z, .inr (3, [.ref a_z_cells, .int z_places, .ref a_z_kinds, .ref a_z_figures, .ref a_z_longings, .ref a_z_seas, .int z_hands, .int z_aboard, .int z_ship, .int z_day, .int z_rows, .int z_columns])), (a_z_cells, .inl (cI, 6, .inl z_cells)), (a_z_kinds, .inl (cI, 7, .inl z_kinds)), (a_z_figures, .inl (cI, 7, .inl z_figures)), (a_z_longings, .inl (cI, 7, .inl z_longings)), (a_z_seas, .inl (cI, 7, .inl z_seas))] H := hP
  exact hret 15 H locs ls r9 h rfl dX3_leanNow_15 hP hS
theorem eSX3_leansTogether : yX3_leansTogether.cls ≠ "java/lang/invoke/MethodHandle" ∧ yX3_leansTogether.cls ≠ "java/lang/invoke/VarHandle" ∧ (parseMethodDescriptor yX3_leansTogether.desc).map (fun d => d.parameters.length) = some 1 := by decide +kernel
theorem eVX3_leansTogether : yX3_leansTogether.cls = RX3 ∧ yX3_leansTogether.cls ≠ "java/lang/invoke/MethodHandle" ∧ yX3_leansTogether.cls ≠ "java/lang/invoke/VarHandle" ∧ (parseMethodDescriptor yX3_leansTogether.desc).map (fun d => d.parameters.length) = some 1 := ⟨rfl, eSX3_leansTogether⟩
abbrev rmX3_leansTogether : Room := { frames := 4, cells := 0, slots := 0, locals := 83 }
def fX3_leansTogether_L4_b (g : Nat) (x1_L4 : Int32) (z_hands : Int32) (z_aboard : Int32) (z_ship : Int32) (z_cells : Nat → Int32) (z_kinds : Nat → Int32) (z_figures : Nat → Int32) (z_longings : Nat → Int32) (z_seas : Nat → Int32) (self : Int32 → Int32 → Option (Int32)) (x2_L4 : Int32) (x3_L4 : Int32) : Option (Int32) := if z_hands ≤ x3_L4 then (some x2_L4) else (bd1 (fX3_isAboard g x3_L4 z_aboard) fun r3 => (if r3 = 0 then (self x2_L4 (x3_L4 + 1)) else (gd (inB x3_L4 7) (if (z_longings x3_L4.toNatClampNeg) = x1_L4 then (bd1 (fX3_leanNow g x3_L4 z_ship z_cells z_kinds z_figures z_longings z_seas) fun r8 => (self (x2_L4 + r8) (x3_L4 + 1))) else (self x2_L4 (x3_L4 + 1))))))
def fX3_leansTogether_L4 (g : Nat) (x1_L4 : Int32) (z_hands : Int32) (z_aboard : Int32) (z_ship : Int32) (z_cells : Nat → Int32) (z_kinds : Nat → Int32) (z_figures : Nat → Int32) (z_longings : Nat → Int32) (z_seas : Nat → Int32) (n : Nat) : Int32 → Int32 → Option (Int32) := lp (fX3_leansTogether_L4_b g x1_L4 z_hands z_aboard z_ship z_cells z_kinds z_figures z_longings z_seas) (fun _ _ => none) n
def fX3_leansTogether (g : Nat) (p0 : Int32) (z_hands : Int32) (z_aboard : Int32) (z_ship : Int32) (z_cells : Nat → Int32) (z_kinds : Nat → Int32) (z_figures : Nat → Int32) (z_longings : Nat → Int32) (z_seas : Nat → Int32) : Option (Int32) := bd1 (fX3_leansTogether_L4 g p0 z_hands z_aboard z_ship z_cells z_kinds z_figures z_longings z_seas g 0 0) fun t10 => (some t10)
set_option maxHeartbeats 4000000 in
set_option maxRecDepth 100000 in
theorem kX3_leansTogether (l : Launch) (D : va_G) (cI cJ : ClassId) (sz g : Nat) (a_z a_z_cells a_z_kinds a_z_figures a_z_longings a_z_seas : Nat) (z_places : Int32) (z_hands : Int32) (z_aboard : Int32) (z_ship : Int32) (z_day : Int32) (z_rows : Int32) (z_columns : Int32) (z_cells : Nat → Int32) (z_kinds : Nat → Int32) (z_figures : Nat → Int32) (z_longings : Nat → Int32) (z_seas : Nat → Int32) (p0 : Int32) (r : Int32) (hf : fX3_leansTogether g p0 z_hands z_aboard z_ship z_cells z_kinds z_figures z_longings z_seas = some r) : Met l yX3_leansTogether wsX3_leansTogether rmX3_leansTogether (va_Pc [.ref a_z, .int p0] (sPc D (tyL cI cJ) [(a_z, .inr (3, [.ref a_z_cells, .int z_places, .ref a_z_kinds, .ref a_z_figures, .ref a_z_longings, .ref a_z_seas, .int z_hands, .int z_aboard, .int z_ship, .int z_day, .int z_rows, .int z_columns])), (a_z_cells, .inl (cI, 6, .inl z_cells)), (a_z_kinds, .inl (cI, 7, .inl z_kinds)), (a_z_figures, .inl (cI, 7, .inl z_figures)), (a_z_longings, .inl (cI, 7, .inl z_longings)), (a_z_seas, .inl (cI, 7, .inl z_seas))] sz)) (qI D (tyL cI cJ) [(a_z, .inr (3, [.ref a_z_cells, .int z_places, .ref a_z_kinds, .ref a_z_figures, .ref a_z_longings, .ref a_z_seas, .int z_hands, .int z_aboard, .int z_ship, .int z_day, .int z_rows, .int z_columns])), (a_z_cells, .inl (cI, 6, .inl z_cells)), (a_z_kinds, .inl (cI, 7, .inl z_kinds)), (a_z_figures, .inl (cI, 7, .inl z_figures)), (a_z_longings, .inl (cI, 7, .inl z_longings)), (a_z_seas, .inl (cI, 7, .inl z_seas))] sz [(a_z, .inr (3, [.ref a_z_cells, .int z_places, .ref a_z_kinds, .ref a_z_figures, .ref a_z_longings, .ref a_z_seas, .int z_hands, .int z_aboard, .int z_ship, .int z_day, .int z_rows, .int z_columns])), (a_z_cells, .inl (cI, 6, .inl z_cells)), (a_z_kinds, .inl (cI, 7, .inl z_kinds)), (a_z_figures, .inl (cI, 7, .inl z_figures)), (a_z_longings, .inl (cI, 7, .inl z_longings)), (a_z_seas, .inl (cI, 7, .inl z_seas))] r) 0 0 (va_A [(a_z, .inr (3, [.ref a_z_cells, .int z_places, .ref a_z_kinds, .ref a_z_figures, .ref a_z_longings, .ref a_z_seas, .int z_hands, .int z_aboard, .int z_ship, .int z_day, .int z_rows, .int z_columns])), (a_z_cells, .inl (cI, 6, .inl z_cells)), (a_z_kinds, .inl (cI, 7, .inl z_kinds)), (a_z_figures, .inl (cI, 7, .inl z_figures)), (a_z_longings, .inl (cI, 7, .inl z_longings)), (a_z_seas, .inl (cI, 7, .inl z_seas))] sz) := by
  refine st_i (cc := cX3_leansTogether) (maxL := 4) (by decide) rfl (Nat.le_of_ble_eq_true rfl) ?_
  intro p e s m args below meth c A Q F hret0 H locs hP hS ls hl
  have F : Cx p s m args c cX3_leansTogether 4 wsX3_leansTogether RX3 D (tyL cI cJ) A := F
  have hx := F.1.1
  have hb := F.1.2.1
  have hown := F.1.2.2.2.1
  have hts := F.1.2.2.2.2
  have iX3 : ∀ w ∈ wsX30, w ∈ wsX3_leansTogether := fun w h => (List.mem_cons_of_mem _ (List.mem_append_right _ h))
  have hret : ∀ (pc : Nat) (H : Heap) (locs : List Loc) (ls : Array Slot) (r' : Int32), some r' = some r → narrow .int (.int r') = .int r' → decode cX3_leansTogether pc = .ok (.ireturn, 1) → WD D A [(a_z, .inr (3, [.ref a_z_cells, .int z_places, .ref a_z_kinds, .ref a_z_figures, .ref a_z_longings, .ref a_z_seas, .int z_hands, .int z_aboard, .int z_ship, .int z_day, .int z_rows, .int z_columns])), (a_z_cells, .inl (cI, 6, .inl z_cells)), (a_z_kinds, .inl (cI, 7, .inl z_kinds)), (a_z_figures, .inl (cI, 7, .inl z_figures)), (a_z_longings, .inl (cI, 7, .inl z_longings)), (a_z_seas, .inl (cI, 7, .inl z_seas))] H → va_S A s.heap H locs → W p l e rmX3_leansTogether s m args below meth c H locs 0 0 Q (F0 m pc ls [.int r']) := by
    intro pc H locs ls r' h hn hd hP hS
    cases h
    exact hret0 pc H locs ls hn hd hP hS
  have L4 : ∀ (x1_L4 : Int32) (n : Nat) (x2_L4 : Int32) (x3_L4 : Int32) (tt0 : Int32) (H : Heap) (locs : List Loc) (ls : Array Slot), fX3_leansTogether_L4 g x1_L4 z_hands z_aboard z_ship z_cells z_kinds z_figures z_longings z_seas n x2_L4 x3_L4 = some tt0 → WD D A [(a_z, .inr (3, [.ref a_z_cells, .int z_places, .ref a_z_kinds, .ref a_z_figures, .ref a_z_longings, .ref a_z_seas, .int z_hands, .int z_aboard, .int z_ship, .int z_day, .int z_rows, .int z_columns])), (a_z_cells, .inl (cI, 6, .inl z_cells)), (a_z_kinds, .inl (cI, 7, .inl z_kinds)), (a_z_figures, .inl (cI, 7, .inl z_figures)), (a_z_longings, .inl (cI, 7, .inl z_longings)), (a_z_seas, .inl (cI, 7, .inl z_seas))] H → va_S A s.heap H locs → lv_has ls 4 [(0, .ref a_z), (1, .int x1_L4), (2, .int x2_L4), (3, .int x3_L4)] → (∀ (H : Heap) (locs : List Loc) (ls : Array Slot), WD D A [(a_z, .inr (3, [.ref a_z_cells, .int z_places, .ref a_z_kinds, .ref a_z_figures, .ref a_z_longings, .ref a_z_seas, .int z_hands, .int z_aboard, .int z_ship, .int z_day, .int z_rows, .int z_columns])), (a_z_cells, .inl (cI, 6, .inl z_cells)), (a_z_kinds, .inl (cI, 7, .inl z_kinds)), (a_z_figures, .inl (cI, 7, .inl z_figures)), (a_z_longings, .inl (cI, 7, .inl z_longings)), (a_z_seas, .inl (cI, 7, .inl z_seas))] H → va_S A s.heap H locs → lv_has ls 4 [(2, .int tt0)] → W p l e rmX3_leansTogether s m args below meth c H locs 0 0 Q (F0 m 44 ls [])) → W p l e rmX3_leansTogether s m args below meth c H locs 0 0 Q (F0 m 4 ls []) := by
    intro x1_L4 n
    induction n with
    | zero =>
      intro x2_L4 x3_L4 tt0 H locs ls h
      exact (no_some h).elim
    | succ n ih =>
      intro x2_L4 x3_L4 tt0 H locs ls h hP hS hl kE
      have h : fX3_leansTogether_L4_b g x1_L4 z_hands z_aboard z_ship z_cells z_kinds z_figures z_longings z_seas (fX3_leansTogether_L4 g x1_L4 z_hands z_aboard z_ship z_cells z_kinds z_figures z_longings z_seas n) x2_L4 x3_L4 = some tt0 := h
      unfold fX3_leansTogether_L4_b at h
      refine lv_iload_n hx hb dX3_leansTogether_4 rfl (lv_at hl 3 rfl) ?_
      refine lv_aload_n hx hb dX3_leansTogether_5 rfl (lv_at hl 0 rfl) ?_
      refine gt_X3_31 F iX3 (List.mem_cons_of_mem _ (List.mem_append_left _ (List.mem_append_left _ (List.mem_of_getElem? (i := 0) rfl)))) hP 0 rfl dX3_leansTogether_6 ?_
      refine lv_icmp_ge (tgt := 44) hx hb dX3_leansTogether_9 (by decide) (fun hc2 => ?_) (fun hc2 => ?_)
      · have h := it_p hc2 h
        cases h
        exact kE H locs ls hP hS (lv_sub hl [2] rfl)
      · have h := it_n hc2 h
        refine lv_aload_n hx hb dX3_leansTogether_12 rfl (lv_at hl 0 rfl) ?_
        refine lv_iload_n hx hb dX3_leansTogether_13 rfl (lv_at hl 3 rfl) ?_
        obtain ⟨r3, hk4, h⟩ := bd1_e h
        refine cV_i (rest := []) F (kX3_isAboard l D cI cJ H.size g a_z a_z_cells a_z_kinds a_z_figures a_z_longings a_z_seas z_places z_hands z_aboard z_ship z_day z_rows z_columns x3_L4 r3 hk4) (cwV 1 hts gX3_leansTogether_X3_isAboard rfl rfl rfl eVX3_isAboard ⟨Nat.le_of_ble_eq_true rfl, Nat.le_of_ble_eq_true rfl⟩) [0] hP hS (by decide) rfl rfl 0 rfl rfl rfl hl.1 (Nat.le_of_ble_eq_true rfl) ⟨Nat.le_refl _, Nat.le_refl _⟩ rfl dX3_leansTogether_14 (fun H locs hP hS => ?_)
        have hP : WD D A [(a_z, .inr (3, [.ref a_z_cells, .int z_places, .ref a_z_kinds, .ref a_z_figures, .ref a_z_longings, .ref a_z_seas, .int z_hands, .int z_aboard, .int z_ship, .int z_day, .int z_rows, .int z_columns])), (a_z_cells, .inl (cI, 6, .inl z_cells)), (a_z_kinds, .inl (cI, 7, .inl z_kinds)), (a_z_figures, .inl (cI, 7, .inl z_figures)), (a_z_longings, .inl (cI, 7, .inl z_longings)), (a_z_seas, .inl (cI, 7, .inl z_seas))] H := hP
        refine lv_if_eq (tgt := 38) hx hb dX3_leansTogether_17 (by decide) (fun hc5 => ?_) (fun hc5 => ?_)
        · have h := it_p hc5 h
          refine lv_iinc (v := x3_L4 + 1) (lv' := [(3, .int (x3_L4 + 1)), (0, .ref a_z), (1, .int x1_L4), (2, .int x2_L4)]) hx hb dX3_leansTogether_38 hl (k := 3) rfl rfl (by decide) rfl (fun ls hl => ?_)
          refine lv_goto (tgt := 4) hx hb dX3_leansTogether_41 (by decide) ?_
          exact ih x2_L4 (x3_L4 + 1) tt0 H locs ls h hP hS (lv_sub hl [1, 2, 3, 0] rfl) kE
        · have h := it_n hc5 h
          refine lv_aload_n hx hb dX3_leansTogether_20 rfl (lv_at hl 0 rfl) ?_
          refine gt_X3_21 F iX3 (List.mem_cons_of_mem _ (List.mem_append_left _ (List.mem_append_left _ (List.mem_of_getElem? (i := 1) rfl)))) hP 0 rfl dX3_leansTogether_21 ?_
          refine lv_iload_n hx hb dX3_leansTogether_24 rfl (lv_at hl 3 rfl) ?_
          obtain ⟨hg6, h⟩ := gd_e h
          refine r_ia F hP 4 rfl rfl hg6 dX3_leansTogether_25 ?_
          refine lv_iload_n hx hb dX3_leansTogether_26 rfl (lv_at hl 1 rfl) ?_
          refine lv_icmp_ne (tgt := 38) hx hb dX3_leansTogether_27 (by decide) (fun hc7 => ?_) (fun hc7 => ?_)
          · have h := it_n hc7 h
            refine lv_iinc (v := x3_L4 + 1) (lv' := [(3, .int (x3_L4 + 1)), (0, .ref a_z), (1, .int x1_L4), (2, .int x2_L4)]) hx hb dX3_leansTogether_38 hl (k := 3) rfl rfl (by decide) rfl (fun ls hl => ?_)
            refine lv_goto (tgt := 4) hx hb dX3_leansTogether_41 (by decide) ?_
            exact ih x2_L4 (x3_L4 + 1) tt0 H locs ls h hP hS (lv_sub hl [1, 2, 3, 0] rfl) kE
          · have h := it_p hc7 h
            refine lv_iload_n hx hb dX3_leansTogether_30 rfl (lv_at hl 2 rfl) ?_
            refine lv_aload_n hx hb dX3_leansTogether_31 rfl (lv_at hl 0 rfl) ?_
            refine lv_iload_n hx hb dX3_leansTogether_32 rfl (lv_at hl 3 rfl) ?_
            obtain ⟨r8, hk9, h⟩ := bd1_e h
            refine cV_i (rest := [.int x2_L4]) F (kX3_leanNow l D cI cJ H.size g a_z a_z_cells a_z_kinds a_z_figures a_z_longings a_z_seas z_places z_hands z_aboard z_ship z_day z_rows z_columns z_cells z_kinds z_figures z_longings z_seas x3_L4 r8 hk9) (cwV 1 hts gX3_leansTogether_X3_leanNow rfl rfl rfl eVX3_leanNow ⟨Nat.le_of_ble_eq_true rfl, Nat.le_of_ble_eq_true rfl⟩) [0, 1, 2, 3, 4, 5] hP hS (by decide) rfl rfl 0 rfl rfl rfl hl.1 (Nat.le_of_ble_eq_true rfl) ⟨Nat.le_refl _, Nat.le_refl _⟩ rfl dX3_leansTogether_33 (fun H locs hP hS => ?_)
            have hP : WD D A [(a_z, .inr (3, [.ref a_z_cells, .int z_places, .ref a_z_kinds, .ref a_z_figures, .ref a_z_longings, .ref a_z_seas, .int z_hands, .int z_aboard, .int z_ship, .int z_day, .int z_rows, .int z_columns])), (a_z_cells, .inl (cI, 6, .inl z_cells)), (a_z_kinds, .inl (cI, 7, .inl z_kinds)), (a_z_figures, .inl (cI, 7, .inl z_figures)), (a_z_longings, .inl (cI, 7, .inl z_longings)), (a_z_seas, .inl (cI, 7, .inl z_seas))] H := hP
            refine lv_iadd hx hb dX3_leansTogether_36 ?_
            refine lv_istore_n (lv' := [(2, .int (x2_L4 + r8)), (0, .ref a_z), (1, .int x1_L4), (3, .int x3_L4)]) hx hb dX3_leansTogether_37 rfl hl (by decide) rfl (fun ls hl => ?_)
            refine lv_iinc (v := x3_L4 + 1) (lv' := [(3, .int (x3_L4 + 1)), (2, .int (x2_L4 + r8)), (0, .ref a_z), (1, .int x1_L4)]) hx hb dX3_leansTogether_38 hl (k := 3) rfl rfl (by decide) rfl (fun ls hl => ?_)
            refine lv_goto (tgt := 4) hx hb dX3_leansTogether_41 (by decide) ?_
            exact ih (x2_L4 + r8) (x3_L4 + 1) tt0 H locs ls h hP hS (lv_sub hl [2, 3, 1, 0] rfl) kE
  have hl : lv_has ls 4 [(0, .ref a_z), (1, .int p0)] := hl
  have h := hf
  unfold fX3_leansTogether at h
  refine lv_iconst (v := 0) hx hb dX3_leansTogether_0 (by decide) ?_
  refine lv_istore_n (lv' := [(2, .int 0), (0, .ref a_z), (1, .int p0)]) hx hb dX3_leansTogether_1 rfl hl (by decide) rfl (fun ls hl => ?_)
  refine lv_iconst (v := 0) hx hb dX3_leansTogether_2 (by decide) ?_
  refine lv_istore_n (lv' := [(3, .int 0), (2, .int 0), (0, .ref a_z), (1, .int p0)]) hx hb dX3_leansTogether_3 rfl hl (by decide) rfl (fun ls hl => ?_)
  obtain ⟨t10, hk11, h⟩ := bd1_e h
  refine L4 p0 g 0 0 t10 H locs ls hk11 hP hS (lv_sub hl [2, 3, 1, 0] rfl) (fun H locs ls hP hS hl => ?_)
  refine lv_iload_n hx hb dX3_leansTogether_44 rfl (lv_at hl 0 rfl) ?_
  exact hret 45 H locs ls t10 h rfl dX3_leansTogether_45 hP hS
theorem eSX3_areOpposed : yX3_areOpposed.cls ≠ "java/lang/invoke/MethodHandle" ∧ yX3_areOpposed.cls ≠ "java/lang/invoke/VarHandle" ∧ (parseMethodDescriptor yX3_areOpposed.desc).map (fun d => d.parameters.length) = some 2 := by decide +kernel
theorem eVX3_areOpposed : yX3_areOpposed.cls = RX3 ∧ yX3_areOpposed.cls ≠ "java/lang/invoke/MethodHandle" ∧ yX3_areOpposed.cls ≠ "java/lang/invoke/VarHandle" ∧ (parseMethodDescriptor yX3_areOpposed.desc).map (fun d => d.parameters.length) = some 2 := ⟨rfl, eSX3_areOpposed⟩
abbrev rmX3_areOpposed : Room := { frames := 1, cells := 0, slots := 0, locals := 21 }
def fX3_areOpposed (g : Nat) (p0 : Int32) (p1 : Int32) (z_ship : Int32) (z_cells : Nat → Int32) (z_longings : Nat → Int32) : Option (Int32) := bd1 (fX3_rowsTo g p0 z_ship z_cells z_longings) fun r11 => (bd1 (fX3_rowsTo g p1 z_ship z_cells z_longings) fun r13 => (if (r11 * r13) < 0 then (some 1) else (bd1 (fX3_columnsTo g p0 z_ship z_cells z_longings) fun r16 => (bd1 (fX3_columnsTo g p1 z_ship z_cells z_longings) fun r18 => (if 0 ≤ (r16 * r18) then (some 0) else (some 1))))))
set_option maxHeartbeats 4000000 in
set_option maxRecDepth 100000 in
theorem kX3_areOpposed (l : Launch) (D : va_G) (cI cJ : ClassId) (sz g : Nat) (a_z a_z_cells a_z_kinds a_z_figures a_z_longings a_z_seas : Nat) (z_places : Int32) (z_hands : Int32) (z_aboard : Int32) (z_ship : Int32) (z_day : Int32) (z_rows : Int32) (z_columns : Int32) (z_cells : Nat → Int32) (z_longings : Nat → Int32) (p0 : Int32) (p1 : Int32) (r : Int32) (hf : fX3_areOpposed g p0 p1 z_ship z_cells z_longings = some r) : Met l yX3_areOpposed wsX3_areOpposed rmX3_areOpposed (va_Pc [.ref a_z, .int p0, .int p1] (sPc D (tyL cI cJ) [(a_z, .inr (3, [.ref a_z_cells, .int z_places, .ref a_z_kinds, .ref a_z_figures, .ref a_z_longings, .ref a_z_seas, .int z_hands, .int z_aboard, .int z_ship, .int z_day, .int z_rows, .int z_columns])), (a_z_cells, .inl (cI, 6, .inl z_cells)), (a_z_longings, .inl (cI, 7, .inl z_longings))] sz)) (qI D (tyL cI cJ) [(a_z, .inr (3, [.ref a_z_cells, .int z_places, .ref a_z_kinds, .ref a_z_figures, .ref a_z_longings, .ref a_z_seas, .int z_hands, .int z_aboard, .int z_ship, .int z_day, .int z_rows, .int z_columns])), (a_z_cells, .inl (cI, 6, .inl z_cells)), (a_z_longings, .inl (cI, 7, .inl z_longings))] sz [(a_z, .inr (3, [.ref a_z_cells, .int z_places, .ref a_z_kinds, .ref a_z_figures, .ref a_z_longings, .ref a_z_seas, .int z_hands, .int z_aboard, .int z_ship, .int z_day, .int z_rows, .int z_columns])), (a_z_cells, .inl (cI, 6, .inl z_cells)), (a_z_longings, .inl (cI, 7, .inl z_longings))] r) 0 0 (va_A [(a_z, .inr (3, [.ref a_z_cells, .int z_places, .ref a_z_kinds, .ref a_z_figures, .ref a_z_longings, .ref a_z_seas, .int z_hands, .int z_aboard, .int z_ship, .int z_day, .int z_rows, .int z_columns])), (a_z_cells, .inl (cI, 6, .inl z_cells)), (a_z_longings, .inl (cI, 7, .inl z_longings))] sz) := by
  refine st_i (cc := cX3_areOpposed) (maxL := 3) (by decide) rfl (Nat.le_of_ble_eq_true rfl) ?_
  intro p e s m args below meth c A Q F hret0 H locs hP hS ls hl
  have F : Cx p s m args c cX3_areOpposed 3 wsX3_areOpposed RX3 D (tyL cI cJ) A := F
  have hx := F.1.1
  have hb := F.1.2.1
  have hown := F.1.2.2.2.1
  have hts := F.1.2.2.2.2
  have hret : ∀ (pc : Nat) (H : Heap) (locs : List Loc) (ls : Array Slot) (r' : Int32), some r' = some r → narrow .boolean (.int r') = .int r' → decode cX3_areOpposed pc = .ok (.ireturn, 1) → WD D A [(a_z, .inr (3, [.ref a_z_cells, .int z_places, .ref a_z_kinds, .ref a_z_figures, .ref a_z_longings, .ref a_z_seas, .int z_hands, .int z_aboard, .int z_ship, .int z_day, .int z_rows, .int z_columns])), (a_z_cells, .inl (cI, 6, .inl z_cells)), (a_z_longings, .inl (cI, 7, .inl z_longings))] H → va_S A s.heap H locs → W p l e rmX3_areOpposed s m args below meth c H locs 0 0 Q (F0 m pc ls [.int r']) := by
    intro pc H locs ls r' h hn hd hP hS
    cases h
    exact hret0 pc H locs ls hn hd hP hS
  have hl : lv_has ls 3 [(0, .ref a_z), (1, .int p0), (2, .int p1)] := hl
  have h := hf
  unfold fX3_areOpposed at h
  refine lv_aload_n hx hb dX3_areOpposed_0 rfl (lv_at hl 0 rfl) ?_
  refine lv_iload_n hx hb dX3_areOpposed_1 rfl (lv_at hl 1 rfl) ?_
  obtain ⟨r11, hk12, h⟩ := bd1_e h
  refine cV_i (rest := []) F (kX3_rowsTo l D cI cJ H.size g a_z a_z_cells a_z_kinds a_z_figures a_z_longings a_z_seas z_places z_hands z_aboard z_ship z_day z_rows z_columns z_cells z_longings p0 r11 hk12) (cwV 1 hts gX3_areOpposed_X3_rowsTo rfl rfl rfl eVX3_rowsTo ⟨Nat.le_of_ble_eq_true rfl, Nat.le_of_ble_eq_true rfl⟩) [0, 1, 2] hP hS (by decide) rfl rfl 0 rfl rfl rfl hl.1 (Nat.le_of_ble_eq_true rfl) ⟨Nat.le_refl _, Nat.le_refl _⟩ rfl dX3_areOpposed_2 (fun H locs hP hS => ?_)
  have hP : WD D A [(a_z, .inr (3, [.ref a_z_cells, .int z_places, .ref a_z_kinds, .ref a_z_figures, .ref a_z_longings, .ref a_z_seas, .int z_hands, .int z_aboard, .int z_ship, .int z_day, .int z_rows, .int z_columns])), (a_z_cells, .inl (cI, 6, .inl z_cells)), (a_z_longings, .inl (cI, 7, .inl z_longings))] H := hP
  refine lv_aload_n hx hb dX3_areOpposed_5 rfl (lv_at hl 0 rfl) ?_
  refine lv_iload_n hx hb dX3_areOpposed_6 rfl (lv_at hl 2 rfl) ?_
  obtain ⟨r13, hk14, h⟩ := bd1_e h
  refine cV_i (rest := [.int r11]) F (kX3_rowsTo l D cI cJ H.size g a_z a_z_cells a_z_kinds a_z_figures a_z_longings a_z_seas z_places z_hands z_aboard z_ship z_day z_rows z_columns z_cells z_longings p1 r13 hk14) (cwV 1 hts gX3_areOpposed_X3_rowsTo rfl rfl rfl eVX3_rowsTo ⟨Nat.le_of_ble_eq_true rfl, Nat.le_of_ble_eq_true rfl⟩) [0, 1, 2] hP hS (by decide) rfl rfl 0 rfl rfl rfl hl.1 (Nat.le_of_ble_eq_true rfl) ⟨Nat.le_refl _, Nat.le_refl _⟩ rfl dX3_areOpposed_7 (fun H locs hP hS => ?_)
  have hP : WD D A [(a_z, .inr (3, [.ref a_z_cells, .int z_places, .ref a_z_kinds, .ref a_z_figures, .ref a_z_longings, .ref a_z_seas, .int z_hands, .int z_aboard, .int z_ship, .int z_day, .int z_rows, .int z_columns])), (a_z_cells, .inl (cI, 6, .inl z_cells)), (a_z_longings, .inl (cI, 7, .inl z_longings))] H := hP
  refine lv_imul hx hb dX3_areOpposed_10 ?_
  refine lv_if_lt (tgt := 28) hx hb dX3_areOpposed_11 (by decide) (fun hc15 => ?_) (fun hc15 => ?_)
  · have h := it_p hc15 h
    refine lv_iconst (v := 1) hx hb dX3_areOpposed_28 (by decide) ?_
    refine lv_goto (tgt := 33) hx hb dX3_areOpposed_29 (by decide) ?_
    exact hret 33 H locs ls 1 h rfl dX3_areOpposed_33 hP hS
  · have h := it_n hc15 h
    refine lv_aload_n hx hb dX3_areOpposed_14 rfl (lv_at hl 0 rfl) ?_
    refine lv_iload_n hx hb dX3_areOpposed_15 rfl (lv_at hl 1 rfl) ?_
    obtain ⟨r16, hk17, h⟩ := bd1_e h
    refine cV_i (rest := []) F (kX3_columnsTo l D cI cJ H.size g a_z a_z_cells a_z_kinds a_z_figures a_z_longings a_z_seas z_places z_hands z_aboard z_ship z_day z_rows z_columns z_cells z_longings p0 r16 hk17) (cwV 1 hts gX3_areOpposed_X3_columnsTo rfl rfl rfl eVX3_columnsTo ⟨Nat.le_of_ble_eq_true rfl, Nat.le_of_ble_eq_true rfl⟩) [0, 1, 2] hP hS (by decide) rfl rfl 0 rfl rfl rfl hl.1 (Nat.le_of_ble_eq_true rfl) ⟨Nat.le_refl _, Nat.le_refl _⟩ rfl dX3_areOpposed_16 (fun H locs hP hS => ?_)
    have hP : WD D A [(a_z, .inr (3, [.ref a_z_cells, .int z_places, .ref a_z_kinds, .ref a_z_figures, .ref a_z_longings, .ref a_z_seas, .int z_hands, .int z_aboard, .int z_ship, .int z_day, .int z_rows, .int z_columns])), (a_z_cells, .inl (cI, 6, .inl z_cells)), (a_z_longings, .inl (cI, 7, .inl z_longings))] H := hP
    refine lv_aload_n hx hb dX3_areOpposed_19 rfl (lv_at hl 0 rfl) ?_
    refine lv_iload_n hx hb dX3_areOpposed_20 rfl (lv_at hl 2 rfl) ?_
    obtain ⟨r18, hk19, h⟩ := bd1_e h
    refine cV_i (rest := [.int r16]) F (kX3_columnsTo l D cI cJ H.size g a_z a_z_cells a_z_kinds a_z_figures a_z_longings a_z_seas z_places z_hands z_aboard z_ship z_day z_rows z_columns z_cells z_longings p1 r18 hk19) (cwV 1 hts gX3_areOpposed_X3_columnsTo rfl rfl rfl eVX3_columnsTo ⟨Nat.le_of_ble_eq_true rfl, Nat.le_of_ble_eq_true rfl⟩) [0, 1, 2] hP hS (by decide) rfl rfl 0 rfl rfl rfl hl.1 (Nat.le_of_ble_eq_true rfl) ⟨Nat.le_refl _, Nat.le_refl _⟩ rfl dX3_areOpposed_21 (fun H locs hP hS => ?_)
    have hP : WD D A [(a_z, .inr (3, [.ref a_z_cells, .int z_places, .ref a_z_kinds, .ref a_z_figures, .ref a_z_longings, .ref a_z_seas, .int z_hands, .int z_aboard, .int z_ship, .int z_day, .int z_rows, .int z_columns])), (a_z_cells, .inl (cI, 6, .inl z_cells)), (a_z_longings, .inl (cI, 7, .inl z_longings))] H := hP
    refine lv_imul hx hb dX3_areOpposed_24 ?_
    refine lv_if_ge (tgt := 32) hx hb dX3_areOpposed_25 (by decide) (fun hc20 => ?_) (fun hc20 => ?_)
    · have h := it_p hc20 h
      refine lv_iconst (v := 0) hx hb dX3_areOpposed_32 (by decide) ?_
      exact hret 33 H locs ls 0 h rfl dX3_areOpposed_33 hP hS
    · have h := it_n hc20 h
      refine lv_iconst (v := 1) hx hb dX3_areOpposed_28 (by decide) ?_
      refine lv_goto (tgt := 33) hx hb dX3_areOpposed_29 (by decide) ?_
      exact hret 33 H locs ls 1 h rfl dX3_areOpposed_33 hP hS
theorem eSX3_hasTimeFor : yX3_hasTimeFor.cls ≠ "java/lang/invoke/MethodHandle" ∧ yX3_hasTimeFor.cls ≠ "java/lang/invoke/VarHandle" ∧ (parseMethodDescriptor yX3_hasTimeFor.desc).map (fun d => d.parameters.length) = some 1 := by decide +kernel
theorem eVX3_hasTimeFor : yX3_hasTimeFor.cls = RX3 ∧ yX3_hasTimeFor.cls ≠ "java/lang/invoke/MethodHandle" ∧ yX3_hasTimeFor.cls ≠ "java/lang/invoke/VarHandle" ∧ (parseMethodDescriptor yX3_hasTimeFor.desc).map (fun d => d.parameters.length) = some 1 := ⟨rfl, eSX3_hasTimeFor⟩
abbrev rmX3_hasTimeFor : Room := { frames := 0, cells := 0, slots := 0, locals := 0 }
def fX3_hasTimeFor (g : Nat) (p0 : Int32) (z_day : Int32) : Option (Int32) := if p0 < 1 then (some 0) else (if 60 < p0 then (some 0) else (if 999 < (z_day + p0) then (some 0) else (some 1)))
set_option maxHeartbeats 4000000 in
set_option maxRecDepth 100000 in
theorem kX3_hasTimeFor (l : Launch) (D : va_G) (cI cJ : ClassId) (sz g : Nat) (a_z a_z_cells a_z_kinds a_z_figures a_z_longings a_z_seas : Nat) (z_places : Int32) (z_hands : Int32) (z_aboard : Int32) (z_ship : Int32) (z_day : Int32) (z_rows : Int32) (z_columns : Int32) (p0 : Int32) (r : Int32) (hf : fX3_hasTimeFor g p0 z_day = some r) : Met l yX3_hasTimeFor wsX3_hasTimeFor rmX3_hasTimeFor (va_Pc [.ref a_z, .int p0] (sPc D (tyL cI cJ) [(a_z, .inr (3, [.ref a_z_cells, .int z_places, .ref a_z_kinds, .ref a_z_figures, .ref a_z_longings, .ref a_z_seas, .int z_hands, .int z_aboard, .int z_ship, .int z_day, .int z_rows, .int z_columns]))] sz)) (qI D (tyL cI cJ) [(a_z, .inr (3, [.ref a_z_cells, .int z_places, .ref a_z_kinds, .ref a_z_figures, .ref a_z_longings, .ref a_z_seas, .int z_hands, .int z_aboard, .int z_ship, .int z_day, .int z_rows, .int z_columns]))] sz [(a_z, .inr (3, [.ref a_z_cells, .int z_places, .ref a_z_kinds, .ref a_z_figures, .ref a_z_longings, .ref a_z_seas, .int z_hands, .int z_aboard, .int z_ship, .int z_day, .int z_rows, .int z_columns]))] r) 0 0 (va_A [(a_z, .inr (3, [.ref a_z_cells, .int z_places, .ref a_z_kinds, .ref a_z_figures, .ref a_z_longings, .ref a_z_seas, .int z_hands, .int z_aboard, .int z_ship, .int z_day, .int z_rows, .int z_columns]))] sz) := by
  refine st_i (cc := cX3_hasTimeFor) (maxL := 2) (by decide) rfl (Nat.le_of_ble_eq_true rfl) ?_
  intro p e s m args below meth c A Q F hret0 H locs hP hS ls hl
  have F : Cx p s m args c cX3_hasTimeFor 2 wsX3_hasTimeFor RX3 D (tyL cI cJ) A := F
  have hx := F.1.1
  have hb := F.1.2.1
  have hown := F.1.2.2.2.1
  have hts := F.1.2.2.2.2
  have iX3 : ∀ w ∈ wsX30, w ∈ wsX3_hasTimeFor := fun w h => (List.mem_cons_of_mem _ (List.mem_append_right _ h))
  have hret : ∀ (pc : Nat) (H : Heap) (locs : List Loc) (ls : Array Slot) (r' : Int32), some r' = some r → narrow .boolean (.int r') = .int r' → decode cX3_hasTimeFor pc = .ok (.ireturn, 1) → WD D A [(a_z, .inr (3, [.ref a_z_cells, .int z_places, .ref a_z_kinds, .ref a_z_figures, .ref a_z_longings, .ref a_z_seas, .int z_hands, .int z_aboard, .int z_ship, .int z_day, .int z_rows, .int z_columns]))] H → va_S A s.heap H locs → W p l e rmX3_hasTimeFor s m args below meth c H locs 0 0 Q (F0 m pc ls [.int r']) := by
    intro pc H locs ls r' h hn hd hP hS
    cases h
    exact hret0 pc H locs ls hn hd hP hS
  have hl : lv_has ls 2 [(0, .ref a_z), (1, .int p0)] := hl
  have h := hf
  unfold fX3_hasTimeFor at h
  refine lv_iload_n hx hb dX3_hasTimeFor_0 rfl (lv_at hl 1 rfl) ?_
  refine lv_iconst (v := 1) hx hb dX3_hasTimeFor_1 (by decide) ?_
  refine lv_icmp_lt (tgt := 27) hx hb dX3_hasTimeFor_2 (by decide) (fun hc4 => ?_) (fun hc4 => ?_)
  · have h := it_p hc4 h
    refine lv_iconst (v := 0) hx hb dX3_hasTimeFor_27 (by decide) ?_
    exact hret 28 H locs ls 0 h rfl dX3_hasTimeFor_28 hP hS
  · have h := it_n hc4 h
    refine lv_iload_n hx hb dX3_hasTimeFor_5 rfl (lv_at hl 1 rfl) ?_
    refine lv_bipush (v := 60) hx hb dX3_hasTimeFor_6 (by decide) ?_
    refine lv_icmp_gt (tgt := 27) hx hb dX3_hasTimeFor_8 (by decide) (fun hc5 => ?_) (fun hc5 => ?_)
    · have h := it_p hc5 h
      refine lv_iconst (v := 0) hx hb dX3_hasTimeFor_27 (by decide) ?_
      exact hret 28 H locs ls 0 h rfl dX3_hasTimeFor_28 hP hS
    · have h := it_n hc5 h
      refine lv_aload_n hx hb dX3_hasTimeFor_11 rfl (lv_at hl 0 rfl) ?_
      refine gt_X3_40 F iX3 (List.mem_cons_of_mem _ (List.mem_append_left _ (List.mem_of_getElem? (i := 0) rfl))) hP 0 rfl dX3_hasTimeFor_12 ?_
      refine lv_iload_n hx hb dX3_hasTimeFor_15 rfl (lv_at hl 1 rfl) ?_
      refine lv_iadd hx hb dX3_hasTimeFor_16 ?_
      refine lv_sipush (v := 999) hx hb dX3_hasTimeFor_17 (by decide) ?_
      refine lv_icmp_gt (tgt := 27) hx hb dX3_hasTimeFor_20 (by decide) (fun hc6 => ?_) (fun hc6 => ?_)
      · have h := it_p hc6 h
        refine lv_iconst (v := 0) hx hb dX3_hasTimeFor_27 (by decide) ?_
        exact hret 28 H locs ls 0 h rfl dX3_hasTimeFor_28 hP hS
      · have h := it_n hc6 h
        refine lv_iconst (v := 1) hx hb dX3_hasTimeFor_23 (by decide) ?_
        refine lv_goto (tgt := 28) hx hb dX3_hasTimeFor_24 (by decide) ?_
        exact hret 28 H locs ls 1 h rfl dX3_hasTimeFor_28 hP hS
theorem eSX3_goDay : yX3_goDay.cls ≠ "java/lang/invoke/MethodHandle" ∧ yX3_goDay.cls ≠ "java/lang/invoke/VarHandle" ∧ (parseMethodDescriptor yX3_goDay.desc).map (fun d => d.parameters.length) = some 0 := by decide +kernel
theorem eVX3_goDay : yX3_goDay.cls = RX3 ∧ yX3_goDay.cls ≠ "java/lang/invoke/MethodHandle" ∧ yX3_goDay.cls ≠ "java/lang/invoke/VarHandle" ∧ (parseMethodDescriptor yX3_goDay.desc).map (fun d => d.parameters.length) = some 0 := ⟨rfl, eSX3_goDay⟩
abbrev rmX3_goDay : Room := { frames := 2, cells := 0, slots := 0, locals := 47 }
def fX3_goDay (g : Nat) (z_hands : Int32) (z_aboard : Int32) (z_ship : Int32) (z_day : Int32) (z_cells : Nat → Int32) (z_kinds : Nat → Int32) (z_figures : Nat → Int32) (z_longings : Nat → Int32) (z_seas : Nat → Int32) : Option (Int32 × Int32 × Int32 × Int32 × Int32 × (Nat → Int32)) := bd2 (fX3_weigh g z_hands z_aboard z_ship z_cells z_kinds z_figures z_longings z_seas) fun z_rows_15 z_columns_16 => (bd1 (fX3_course g z_rows_15 z_columns_16) fun r18 => (bd1 (fX3_cellOn g r18 z_ship) fun r20 => (if r20 = z_ship then (bd2 (fX3_passDay g z_hands z_aboard z_day z_seas) fun z_day_23 z_seas_24 => (some (0, r20, z_day_23, z_rows_15, z_columns_16, z_seas_24))) else (bd2 (fX3_passDay g z_hands z_aboard z_day z_seas) fun z_day_26 z_seas_27 => (some (1, r20, z_day_26, z_rows_15, z_columns_16, z_seas_27))))))
set_option maxHeartbeats 4000000 in
set_option maxRecDepth 100000 in
theorem kX3_goDay (l : Launch) (D : va_G) (cI cJ : ClassId) (sz g : Nat) (a_z a_z_cells a_z_kinds a_z_figures a_z_longings a_z_seas : Nat) (z_places : Int32) (z_hands : Int32) (z_aboard : Int32) (z_ship : Int32) (z_day : Int32) (z_rows : Int32) (z_columns : Int32) (z_cells : Nat → Int32) (z_kinds : Nat → Int32) (z_figures : Nat → Int32) (z_longings : Nat → Int32) (z_seas : Nat → Int32) (r : Int32) (n_z_ship : Int32) (n_z_day : Int32) (n_z_rows : Int32) (n_z_columns : Int32) (n_z_seas : Nat → Int32) (hf : fX3_goDay g z_hands z_aboard z_ship z_day z_cells z_kinds z_figures z_longings z_seas = some (r, n_z_ship, n_z_day, n_z_rows, n_z_columns, n_z_seas)) : Met l yX3_goDay wsX3_goDay rmX3_goDay (va_Pc [.ref a_z] (sPc D (tyL cI cJ) [(a_z, .inr (3, [.ref a_z_cells, .int z_places, .ref a_z_kinds, .ref a_z_figures, .ref a_z_longings, .ref a_z_seas, .int z_hands, .int z_aboard, .int z_ship, .int z_day, .int z_rows, .int z_columns])), (a_z_cells, .inl (cI, 6, .inl z_cells)), (a_z_kinds, .inl (cI, 7, .inl z_kinds)), (a_z_figures, .inl (cI, 7, .inl z_figures)), (a_z_longings, .inl (cI, 7, .inl z_longings)), (a_z_seas, .inl (cI, 7, .inl z_seas))] sz)) (qI D (tyL cI cJ) [(a_z, .inr (3, [.ref a_z_cells, .int z_places, .ref a_z_kinds, .ref a_z_figures, .ref a_z_longings, .ref a_z_seas, .int z_hands, .int z_aboard, .int z_ship, .int z_day, .int z_rows, .int z_columns])), (a_z_cells, .inl (cI, 6, .inl z_cells)), (a_z_kinds, .inl (cI, 7, .inl z_kinds)), (a_z_figures, .inl (cI, 7, .inl z_figures)), (a_z_longings, .inl (cI, 7, .inl z_longings)), (a_z_seas, .inl (cI, 7, .inl z_seas))] sz [(a_z, .inr (3, [.ref a_z_cells, .int z_places, .ref a_z_kinds, .ref a_z_figures, .ref a_z_longings, .ref a_z_seas, .int z_hands, .int z_aboard, .int n_z_ship, .int n_z_day, .int n_z_rows, .int n_z_columns])), (a_z_cells, .inl (cI, 6, .inl z_cells)), (a_z_kinds, .inl (cI, 7, .inl z_kinds)), (a_z_figures, .inl (cI, 7, .inl z_figures)), (a_z_longings, .inl (cI, 7, .inl z_longings)), (a_z_seas, .inl (cI, 7, .inl n_z_seas))] r) 0 0 (va_A [(a_z, .inr (3, [.ref a_z_cells, .int z_places, .ref a_z_kinds, .ref a_z_figures, .ref a_z_longings, .ref a_z_seas, .int z_hands, .int z_aboard, .int z_ship, .int z_day, .int z_rows, .int z_columns])), (a_z_cells, .inl (cI, 6, .inl z_cells)), (a_z_kinds, .inl (cI, 7, .inl z_kinds)), (a_z_figures, .inl (cI, 7, .inl z_figures)), (a_z_longings, .inl (cI, 7, .inl z_longings)), (a_z_seas, .inl (cI, 7, .inl z_seas))] sz) := by
  refine st_i (cc := cX3_goDay) (maxL := 3) (by decide) rfl (Nat.le_of_ble_eq_true rfl) ?_
  intro p e s m args below meth c A Q F hret0 H locs hP hS ls hl
  have F : Cx p s m args c cX3_goDay 3 wsX3_goDay RX3 D (tyL cI cJ) A := F
  have hx := F.1.1
  have hb := F.1.2.1
  have hown := F.1.2.2.2.1
  have hts := F.1.2.2.2.2
  have iX3 : ∀ w ∈ wsX30, w ∈ wsX3_goDay := fun w h => (List.mem_cons_of_mem _ (List.mem_append_right _ h))
  have hret : ∀ (pc : Nat) (H : Heap) (locs : List Loc) (ls : Array Slot) (r' : Int32) (m_z_ship : Int32) (m_z_day : Int32) (m_z_rows : Int32) (m_z_columns : Int32) (m_z_seas : Nat → Int32), some (r', m_z_ship, m_z_day, m_z_rows, m_z_columns, m_z_seas) = some (r, n_z_ship, n_z_day, n_z_rows, n_z_columns, n_z_seas) → narrow .boolean (.int r') = .int r' → decode cX3_goDay pc = .ok (.ireturn, 1) → WD D A [(a_z, .inr (3, [.ref a_z_cells, .int z_places, .ref a_z_kinds, .ref a_z_figures, .ref a_z_longings, .ref a_z_seas, .int z_hands, .int z_aboard, .int m_z_ship, .int m_z_day, .int m_z_rows, .int m_z_columns])), (a_z_cells, .inl (cI, 6, .inl z_cells)), (a_z_kinds, .inl (cI, 7, .inl z_kinds)), (a_z_figures, .inl (cI, 7, .inl z_figures)), (a_z_longings, .inl (cI, 7, .inl z_longings)), (a_z_seas, .inl (cI, 7, .inl m_z_seas))] H → va_S A s.heap H locs → W p l e rmX3_goDay s m args below meth c H locs 0 0 Q (F0 m pc ls [.int r']) := by
    intro pc H locs ls r' m_z_ship m_z_day m_z_rows m_z_columns m_z_seas h hn hd hP hS
    cases h
    exact hret0 pc H locs ls hn hd hP hS
  have hl : lv_has ls 3 [(0, .ref a_z)] := hl
  have h := hf
  unfold fX3_goDay at h
  refine lv_aload_n hx hb dX3_goDay_0 rfl (lv_at hl 0 rfl) ?_
  obtain ⟨z_rows_15, z_columns_16, hk17, h⟩ := bd2_e h
  refine cV_v (rest := []) F (kX3_weigh l D cI cJ H.size g a_z a_z_cells a_z_kinds a_z_figures a_z_longings a_z_seas z_places z_hands z_aboard z_ship z_day z_rows z_columns z_cells z_kinds z_figures z_longings z_seas z_rows_15 z_columns_16 hk17) (cwV 0 hts gX3_goDay_X3_weigh rfl rfl rfl eVX3_weigh ⟨Nat.le_of_ble_eq_true rfl, Nat.le_of_ble_eq_true rfl⟩) [0, 1, 2, 3, 4, 5] hP hS (by decide) rfl rfl 0 rfl rfl rfl hl.1 (Nat.le_of_ble_eq_true rfl) ⟨Nat.le_refl _, Nat.le_refl _⟩ rfl dX3_goDay_1 (fun H locs hP hS => ?_)
  have hP : WD D A [(a_z, .inr (3, [.ref a_z_cells, .int z_places, .ref a_z_kinds, .ref a_z_figures, .ref a_z_longings, .ref a_z_seas, .int z_hands, .int z_aboard, .int z_ship, .int z_day, .int z_rows_15, .int z_columns_16])), (a_z_cells, .inl (cI, 6, .inl z_cells)), (a_z_kinds, .inl (cI, 7, .inl z_kinds)), (a_z_figures, .inl (cI, 7, .inl z_figures)), (a_z_longings, .inl (cI, 7, .inl z_longings)), (a_z_seas, .inl (cI, 7, .inl z_seas))] H := hP
  refine lv_aload_n hx hb dX3_goDay_4 rfl (lv_at hl 0 rfl) ?_
  refine lv_aload_n hx hb dX3_goDay_5 rfl (lv_at hl 0 rfl) ?_
  obtain ⟨r18, hk19, h⟩ := bd1_e h
  refine cV_i (rest := [.ref a_z]) F (kX3_course l D cI cJ H.size g a_z a_z_cells a_z_kinds a_z_figures a_z_longings a_z_seas z_places z_hands z_aboard z_ship z_day z_rows_15 z_columns_16 r18 hk19) (cwV 0 hts gX3_goDay_X3_course rfl rfl rfl eVX3_course ⟨Nat.le_of_ble_eq_true rfl, Nat.le_of_ble_eq_true rfl⟩) [0] hP hS (by decide) rfl rfl 0 rfl rfl rfl hl.1 (Nat.le_of_ble_eq_true rfl) ⟨Nat.le_refl _, Nat.le_refl _⟩ rfl dX3_goDay_6 (fun H locs hP hS => ?_)
  have hP : WD D A [(a_z, .inr (3, [.ref a_z_cells, .int z_places, .ref a_z_kinds, .ref a_z_figures, .ref a_z_longings, .ref a_z_seas, .int z_hands, .int z_aboard, .int z_ship, .int z_day, .int z_rows_15, .int z_columns_16])), (a_z_cells, .inl (cI, 6, .inl z_cells)), (a_z_kinds, .inl (cI, 7, .inl z_kinds)), (a_z_figures, .inl (cI, 7, .inl z_figures)), (a_z_longings, .inl (cI, 7, .inl z_longings)), (a_z_seas, .inl (cI, 7, .inl z_seas))] H := hP
  obtain ⟨r20, hk21, h⟩ := bd1_e h
  refine cV_i (rest := []) F (kX3_cellOn l D cI cJ H.size g a_z a_z_cells a_z_kinds a_z_figures a_z_longings a_z_seas z_places z_hands z_aboard z_ship z_day z_rows_15 z_columns_16 r18 r20 hk21) (cwV 1 hts gX3_goDay_X3_cellOn rfl rfl rfl eVX3_cellOn ⟨Nat.le_of_ble_eq_true rfl, Nat.le_of_ble_eq_true rfl⟩) [0] hP hS (by decide) rfl rfl 0 rfl rfl rfl hl.1 (Nat.le_of_ble_eq_true rfl) ⟨Nat.le_refl _, Nat.le_refl _⟩ rfl dX3_goDay_9 (fun H locs hP hS => ?_)
  have hP : WD D A [(a_z, .inr (3, [.ref a_z_cells, .int z_places, .ref a_z_kinds, .ref a_z_figures, .ref a_z_longings, .ref a_z_seas, .int z_hands, .int z_aboard, .int z_ship, .int z_day, .int z_rows_15, .int z_columns_16])), (a_z_cells, .inl (cI, 6, .inl z_cells)), (a_z_kinds, .inl (cI, 7, .inl z_kinds)), (a_z_figures, .inl (cI, 7, .inl z_figures)), (a_z_longings, .inl (cI, 7, .inl z_longings)), (a_z_seas, .inl (cI, 7, .inl z_seas))] H := hP
  refine lv_istore_n (lv' := [(1, .int r20), (0, .ref a_z)]) hx hb dX3_goDay_12 rfl hl (by decide) rfl (fun ls hl => ?_)
  refine lv_iload_n hx hb dX3_goDay_13 rfl (lv_at hl 0 rfl) ?_
  refine lv_aload_n hx hb dX3_goDay_14 rfl (lv_at hl 1 rfl) ?_
  refine gt_X3_37 F iX3 (List.mem_cons_of_mem _ (List.mem_append_left _ (List.mem_append_left _ (List.mem_of_getElem? (i := 0) rfl)))) hP 0 rfl dX3_goDay_15 ?_
  refine lv_icmp_eq (tgt := 25) hx hb dX3_goDay_18 (by decide) (fun hc22 => ?_) (fun hc22 => ?_)
  · have h := it_p hc22 h
    refine lv_iconst (v := 0) hx hb dX3_goDay_25 (by decide) ?_
    refine lv_istore_n (lv' := [(2, .int 0), (1, .int r20), (0, .ref a_z)]) hx hb dX3_goDay_26 rfl hl (by decide) rfl (fun ls hl => ?_)
    refine lv_aload_n hx hb dX3_goDay_27 rfl (lv_at hl 2 rfl) ?_
    refine lv_iload_n hx hb dX3_goDay_28 rfl (lv_at hl 1 rfl) ?_
    refine pt_X3_37 F iX3 (List.mem_cons_of_mem _ (List.mem_append_left _ (List.mem_append_left _ (List.mem_of_getElem? (i := 0) rfl)))) hP hS 0 rfl dX3_goDay_29 (fun H locs hP hS => ?_)
    have hP : WD D A [(a_z, .inr (3, [.ref a_z_cells, .int z_places, .ref a_z_kinds, .ref a_z_figures, .ref a_z_longings, .ref a_z_seas, .int z_hands, .int z_aboard, .int r20, .int z_day, .int z_rows_15, .int z_columns_16])), (a_z_cells, .inl (cI, 6, .inl z_cells)), (a_z_kinds, .inl (cI, 7, .inl z_kinds)), (a_z_figures, .inl (cI, 7, .inl z_figures)), (a_z_longings, .inl (cI, 7, .inl z_longings)), (a_z_seas, .inl (cI, 7, .inl z_seas))] H := hP
    refine lv_aload_n hx hb dX3_goDay_32 rfl (lv_at hl 2 rfl) ?_
    obtain ⟨z_day_23, z_seas_24, hk25, h⟩ := bd2_e h
    refine cV_v (rest := []) F (kX3_passDay l D cI cJ H.size g a_z a_z_cells a_z_kinds a_z_figures a_z_longings a_z_seas z_places z_hands z_aboard r20 z_day z_rows_15 z_columns_16 z_seas z_day_23 z_seas_24 hk25) (cwV 0 hts gX3_goDay_X3_passDay rfl rfl rfl eVX3_passDay ⟨Nat.le_of_ble_eq_true rfl, Nat.le_of_ble_eq_true rfl⟩) [0, 5] hP hS (by decide) rfl rfl 0 rfl rfl rfl hl.1 (Nat.le_of_ble_eq_true rfl) ⟨Nat.le_refl _, Nat.le_refl _⟩ rfl dX3_goDay_33 (fun H locs hP hS => ?_)
    have hP : WD D A [(a_z, .inr (3, [.ref a_z_cells, .int z_places, .ref a_z_kinds, .ref a_z_figures, .ref a_z_longings, .ref a_z_seas, .int z_hands, .int z_aboard, .int r20, .int z_day_23, .int z_rows_15, .int z_columns_16])), (a_z_cells, .inl (cI, 6, .inl z_cells)), (a_z_kinds, .inl (cI, 7, .inl z_kinds)), (a_z_figures, .inl (cI, 7, .inl z_figures)), (a_z_longings, .inl (cI, 7, .inl z_longings)), (a_z_seas, .inl (cI, 7, .inl z_seas_24))] H := hP
    refine lv_iload_n hx hb dX3_goDay_36 rfl (lv_at hl 0 rfl) ?_
    exact hret 37 H locs ls 0 r20 z_day_23 z_rows_15 z_columns_16 z_seas_24 h rfl dX3_goDay_37 hP hS
  · have h := it_n hc22 h
    refine lv_iconst (v := 1) hx hb dX3_goDay_21 (by decide) ?_
    refine lv_goto (tgt := 26) hx hb dX3_goDay_22 (by decide) ?_
    refine lv_istore_n (lv' := [(2, .int 1), (1, .int r20), (0, .ref a_z)]) hx hb dX3_goDay_26 rfl hl (by decide) rfl (fun ls hl => ?_)
    refine lv_aload_n hx hb dX3_goDay_27 rfl (lv_at hl 2 rfl) ?_
    refine lv_iload_n hx hb dX3_goDay_28 rfl (lv_at hl 1 rfl) ?_
    refine pt_X3_37 F iX3 (List.mem_cons_of_mem _ (List.mem_append_left _ (List.mem_append_left _ (List.mem_of_getElem? (i := 0) rfl)))) hP hS 0 rfl dX3_goDay_29 (fun H locs hP hS => ?_)
    have hP : WD D A [(a_z, .inr (3, [.ref a_z_cells, .int z_places, .ref a_z_kinds, .ref a_z_figures, .ref a_z_longings, .ref a_z_seas, .int z_hands, .int z_aboard, .int r20, .int z_day, .int z_rows_15, .int z_columns_16])), (a_z_cells, .inl (cI, 6, .inl z_cells)), (a_z_kinds, .inl (cI, 7, .inl z_kinds)), (a_z_figures, .inl (cI, 7, .inl z_figures)), (a_z_longings, .inl (cI, 7, .inl z_longings)), (a_z_seas, .inl (cI, 7, .inl z_seas))] H := hP
    refine lv_aload_n hx hb dX3_goDay_32 rfl (lv_at hl 2 rfl) ?_
    obtain ⟨z_day_26, z_seas_27, hk28, h⟩ := bd2_e h
    refine cV_v (rest := []) F (kX3_passDay l D cI cJ H.size g a_z a_z_cells a_z_kinds a_z_figures a_z_longings a_z_seas z_places z_hands z_aboard r20 z_day z_rows_15 z_columns_16 z_seas z_day_26 z_seas_27 hk28) (cwV 0 hts gX3_goDay_X3_passDay rfl rfl rfl eVX3_passDay ⟨Nat.le_of_ble_eq_true rfl, Nat.le_of_ble_eq_true rfl⟩) [0, 5] hP hS (by decide) rfl rfl 0 rfl rfl rfl hl.1 (Nat.le_of_ble_eq_true rfl) ⟨Nat.le_refl _, Nat.le_refl _⟩ rfl dX3_goDay_33 (fun H locs hP hS => ?_)
    have hP : WD D A [(a_z, .inr (3, [.ref a_z_cells, .int z_places, .ref a_z_kinds, .ref a_z_figures, .ref a_z_longings, .ref a_z_seas, .int z_hands, .int z_aboard, .int r20, .int z_day_26, .int z_rows_15, .int z_columns_16])), (a_z_cells, .inl (cI, 6, .inl z_cells)), (a_z_kinds, .inl (cI, 7, .inl z_kinds)), (a_z_figures, .inl (cI, 7, .inl z_figures)), (a_z_longings, .inl (cI, 7, .inl z_longings)), (a_z_seas, .inl (cI, 7, .inl z_seas_27))] H := hP
    refine lv_iload_n hx hb dX3_goDay_36 rfl (lv_at hl 0 rfl) ?_
    exact hret 37 H locs ls 1 r20 z_day_26 z_rows_15 z_columns_16 z_seas_27 h rfl dX3_goDay_37 hP hS
theorem eSX3_goDays : yX3_goDays.cls ≠ "java/lang/invoke/MethodHandle" ∧ yX3_goDays.cls ≠ "java/lang/invoke/VarHandle" ∧ (parseMethodDescriptor yX3_goDays.desc).map (fun d => d.parameters.length) = some 1 := by decide +kernel
theorem eVX3_goDays : yX3_goDays.cls = RX3 ∧ yX3_goDays.cls ≠ "java/lang/invoke/MethodHandle" ∧ yX3_goDays.cls ≠ "java/lang/invoke/VarHandle" ∧ (parseMethodDescriptor yX3_goDays.desc).map (fun d => d.parameters.length) = some 1 := ⟨rfl, eSX3_goDays⟩
abbrev rmX3_goDays : Room := { frames := 3, cells := 0, slots := 0, locals := 69 }
def fX3_goDays_L4_b (g : Nat) (x1_L4 : Int32) (z_hands : Int32) (z_aboard : Int32) (z_cells : Nat → Int32) (z_kinds : Nat → Int32) (z_figures : Nat → Int32) (z_longings : Nat → Int32) (self : Int32 → Int32 → Int32 → Int32 → Int32 → Int32 → (Nat → Int32) → Option (Int32 × Int32 × Int32 × Int32 × Int32 × (Nat → Int32))) (x2_L4 : Int32) (x3_L4 : Int32) (z_ship_L4 : Int32) (z_day_L4 : Int32) (z_rows_L4 : Int32) (z_columns_L4 : Int32) (z_seas_L4 : Nat → Int32) : Option (Int32 × Int32 × Int32 × Int32 × Int32 × (Nat → Int32)) := if x1_L4 ≤ x3_L4 then (some (x2_L4, z_ship_L4, z_day_L4, z_rows_L4, z_columns_L4, z_seas_L4)) else (bd6 (fX3_goDay g z_hands z_aboard z_ship_L4 z_day_L4 z_cells z_kinds z_figures z_longings z_seas_L4) fun r8 z_ship_9 z_day_10 z_rows_11 z_columns_12 z_seas_13 => (if r8 = 0 then (self x2_L4 (x3_L4 + 1) z_ship_9 z_day_10 z_rows_11 z_columns_12 z_seas_13) else (self (x2_L4 + 1) (x3_L4 + 1) z_ship_9 z_day_10 z_rows_11 z_columns_12 z_seas_13)))
def fX3_goDays_L4 (g : Nat) (x1_L4 : Int32) (z_hands : Int32) (z_aboard : Int32) (z_cells : Nat → Int32) (z_kinds : Nat → Int32) (z_figures : Nat → Int32) (z_longings : Nat → Int32) (n : Nat) : Int32 → Int32 → Int32 → Int32 → Int32 → Int32 → (Nat → Int32) → Option (Int32 × Int32 × Int32 × Int32 × Int32 × (Nat → Int32)) := lp (fX3_goDays_L4_b g x1_L4 z_hands z_aboard z_cells z_kinds z_figures z_longings) (fun _ _ _ _ _ _ _ => none) n
def fX3_goDays (g : Nat) (p0 : Int32) (z_hands : Int32) (z_aboard : Int32) (z_ship : Int32) (z_day : Int32) (z_rows : Int32) (z_columns : Int32) (z_cells : Nat → Int32) (z_kinds : Nat → Int32) (z_figures : Nat → Int32) (z_longings : Nat → Int32) (z_seas : Nat → Int32) : Option (Int32 × Int32 × Int32 × Int32 × Int32 × (Nat → Int32)) := bd6 (fX3_goDays_L4 g p0 z_hands z_aboard z_cells z_kinds z_figures z_longings g 0 0 z_ship z_day z_rows z_columns z_seas) fun t16 t17 t18 t19 t20 t21 => (some (t16, t17, t18, t19, t20, t21))
set_option maxHeartbeats 4000000 in
set_option maxRecDepth 100000 in
theorem kX3_goDays (l : Launch) (D : va_G) (cI cJ : ClassId) (sz g : Nat) (a_z a_z_cells a_z_kinds a_z_figures a_z_longings a_z_seas : Nat) (z_places : Int32) (z_hands : Int32) (z_aboard : Int32) (z_ship : Int32) (z_day : Int32) (z_rows : Int32) (z_columns : Int32) (z_cells : Nat → Int32) (z_kinds : Nat → Int32) (z_figures : Nat → Int32) (z_longings : Nat → Int32) (z_seas : Nat → Int32) (p0 : Int32) (r : Int32) (n_z_ship : Int32) (n_z_day : Int32) (n_z_rows : Int32) (n_z_columns : Int32) (n_z_seas : Nat → Int32) (hf : fX3_goDays g p0 z_hands z_aboard z_ship z_day z_rows z_columns z_cells z_kinds z_figures z_longings z_seas = some (r, n_z_ship, n_z_day, n_z_rows, n_z_columns, n_z_seas)) : Met l yX3_goDays wsX3_goDays rmX3_goDays (va_Pc [.ref a_z, .int p0] (sPc D (tyL cI cJ) [(a_z, .inr (3, [.ref a_z_cells, .int z_places, .ref a_z_kinds, .ref a_z_figures, .ref a_z_longings, .ref a_z_seas, .int z_hands, .int z_aboard, .int z_ship, .int z_day, .int z_rows, .int z_columns])), (a_z_cells, .inl (cI, 6, .inl z_cells)), (a_z_kinds, .inl (cI, 7, .inl z_kinds)), (a_z_figures, .inl (cI, 7, .inl z_figures)), (a_z_longings, .inl (cI, 7, .inl z_longings)), (a_z_seas, .inl (cI, 7, .inl z_seas))] sz)) (qI D (tyL cI cJ) [(a_z, .inr (3, [.ref a_z_cells, .int z_places, .ref a_z_kinds, .ref a_z_figures, .ref a_z_longings, .ref a_z_seas, .int z_hands, .int z_aboard, .int z_ship, .int z_day, .int z_rows, .int z_columns])), (a_z_cells, .inl (cI, 6, .inl z_cells)), (a_z_kinds, .inl (cI, 7, .inl z_kinds)), (a_z_figures, .inl (cI, 7, .inl z_figures)), (a_z_longings, .inl (cI, 7, .inl z_longings)), (a_z_seas, .inl (cI, 7, .inl z_seas))] sz [(a_z, .inr (3, [.ref a_z_cells, .int z_places, .ref a_z_kinds, .ref a_z_figures, .ref a_z_longings, .ref a_z_seas, .int z_hands, .int z_aboard, .int n_z_ship, .int n_z_day, .int n_z_rows, .int n_z_columns])), (a_z_cells, .inl (cI, 6, .inl z_cells)), (a_z_kinds, .inl (cI, 7, .inl z_kinds)), (a_z_figures, .inl (cI, 7, .inl z_figures)), (a_z_longings, .inl (cI, 7, .inl z_longings)), (a_z_seas, .inl (cI, 7, .inl n_z_seas))] r) 0 0 (va_A [(a_z, .inr (3, [.ref a_z_cells, .int z_places, .ref a_z_kinds, .ref a_z_figures, .ref a_z_longings, .ref a_z_seas, .int z_hands, .int z_aboard, .int z_ship, .int z_day, .int z_rows, .int z_columns])), (a_z_cells, .inl (cI, 6, .inl z_cells)), (a_z_kinds, .inl (cI, 7, .inl z_kinds)), (a_z_figures, .inl (cI, 7, .inl z_figures)), (a_z_longings, .inl (cI, 7, .inl z_longings)), (a_z_seas, .inl (cI, 7, .inl z_seas))] sz) := by
  refine st_i (cc := cX3_goDays) (maxL := 4) (by decide) rfl (Nat.le_of_ble_eq_true rfl) ?_
  intro p e s m args below meth c A Q F hret0 H locs hP hS ls hl
  have F : Cx p s m args c cX3_goDays 4 wsX3_goDays RX3 D (tyL cI cJ) A := F
  have hx := F.1.1
  have hb := F.1.2.1
  have hown := F.1.2.2.2.1
  have hts := F.1.2.2.2.2
  have hret : ∀ (pc : Nat) (H : Heap) (locs : List Loc) (ls : Array Slot) (r' : Int32) (m_z_ship : Int32) (m_z_day : Int32) (m_z_rows : Int32) (m_z_columns : Int32) (m_z_seas : Nat → Int32), some (r', m_z_ship, m_z_day, m_z_rows, m_z_columns, m_z_seas) = some (r, n_z_ship, n_z_day, n_z_rows, n_z_columns, n_z_seas) → narrow .int (.int r') = .int r' → decode cX3_goDays pc = .ok (.ireturn, 1) → WD D A [(a_z, .inr (3, [.ref a_z_cells, .int z_places, .ref a_z_kinds, .ref a_z_figures, .ref a_z_longings, .ref a_z_seas, .int z_hands, .int z_aboard, .int m_z_ship, .int m_z_day, .int m_z_rows, .int m_z_columns])), (a_z_cells, .inl (cI, 6, .inl z_cells)), (a_z_kinds, .inl (cI, 7, .inl z_kinds)), (a_z_figures, .inl (cI, 7, .inl z_figures)), (a_z_longings, .inl (cI, 7, .inl z_longings)), (a_z_seas, .inl (cI, 7, .inl m_z_seas))] H → va_S A s.heap H locs → W p l e rmX3_goDays s m args below meth c H locs 0 0 Q (F0 m pc ls [.int r']) := by
    intro pc H locs ls r' m_z_ship m_z_day m_z_rows m_z_columns m_z_seas h hn hd hP hS
    cases h
    exact hret0 pc H locs ls hn hd hP hS
  have L4 : ∀ (x1_L4 : Int32) (n : Nat) (x2_L4 : Int32) (x3_L4 : Int32) (z_ship_L4 : Int32) (z_day_L4 : Int32) (z_rows_L4 : Int32) (z_columns_L4 : Int32) (z_seas_L4 : Nat → Int32) (tt0 : Int32) (tt1 : Int32) (tt2 : Int32) (tt3 : Int32) (tt4 : Int32) (tt5 : Nat → Int32) (H : Heap) (locs : List Loc) (ls : Array Slot), fX3_goDays_L4 g x1_L4 z_hands z_aboard z_cells z_kinds z_figures z_longings n x2_L4 x3_L4 z_ship_L4 z_day_L4 z_rows_L4 z_columns_L4 z_seas_L4 = some (tt0, tt1, tt2, tt3, tt4, tt5) → WD D A [(a_z, .inr (3, [.ref a_z_cells, .int z_places, .ref a_z_kinds, .ref a_z_figures, .ref a_z_longings, .ref a_z_seas, .int z_hands, .int z_aboard, .int z_ship_L4, .int z_day_L4, .int z_rows_L4, .int z_columns_L4])), (a_z_cells, .inl (cI, 6, .inl z_cells)), (a_z_kinds, .inl (cI, 7, .inl z_kinds)), (a_z_figures, .inl (cI, 7, .inl z_figures)), (a_z_longings, .inl (cI, 7, .inl z_longings)), (a_z_seas, .inl (cI, 7, .inl z_seas_L4))] H → va_S A s.heap H locs → lv_has ls 4 [(0, .ref a_z), (1, .int x1_L4), (2, .int x2_L4), (3, .int x3_L4)] → (∀ (H : Heap) (locs : List Loc) (ls : Array Slot), WD D A [(a_z, .inr (3, [.ref a_z_cells, .int z_places, .ref a_z_kinds, .ref a_z_figures, .ref a_z_longings, .ref a_z_seas, .int z_hands, .int z_aboard, .int tt1, .int tt2, .int tt3, .int tt4])), (a_z_cells, .inl (cI, 6, .inl z_cells)), (a_z_kinds, .inl (cI, 7, .inl z_kinds)), (a_z_figures, .inl (cI, 7, .inl z_figures)), (a_z_longings, .inl (cI, 7, .inl z_longings)), (a_z_seas, .inl (cI, 7, .inl tt5))] H → va_S A s.heap H locs → lv_has ls 4 [(2, .int tt0)] → W p l e rmX3_goDays s m args below meth c H locs 0 0 Q (F0 m 25 ls [])) → W p l e rmX3_goDays s m args below meth c H locs 0 0 Q (F0 m 4 ls []) := by
    intro x1_L4 n
    induction n with
    | zero =>
      intro x2_L4 x3_L4 z_ship_L4 z_day_L4 z_rows_L4 z_columns_L4 z_seas_L4 tt0 tt1 tt2 tt3 tt4 tt5 H locs ls h
      exact (no_some h).elim
    | succ n ih =>
      intro x2_L4 x3_L4 z_ship_L4 z_day_L4 z_rows_L4 z_columns_L4 z_seas_L4 tt0 tt1 tt2 tt3 tt4 tt5 H locs ls h hP hS hl kE
      have h : fX3_goDays_L4_b g x1_L4 z_hands z_aboard z_cells z_kinds z_figures z_longings (fX3_goDays_L4 g x1_L4 z_hands z_aboard z_cells z_kinds z_figures z_longings n) x2_L4 x3_L4 z_ship_L4 z_day_L4 z_rows_L4 z_columns_L4 z_seas_L4 = some (tt0, tt1, tt2, tt3, tt4, tt5) := h
      unfold fX3_goDays_L4_b at h
      refine lv_iload_n hx hb dX3_goDays_4 rfl (lv_at hl 3 rfl) ?_
      refine lv_iload_n hx hb dX3_goDays_5 rfl (lv_at hl 1 rfl) ?_
      refine lv_icmp_ge (tgt := 25) hx hb dX3_goDays_6 (by decide) (fun hc7 => ?_) (fun hc7 => ?_)
      · have h := it_p hc7 h
        cases h
        exact kE H locs ls hP hS (lv_sub hl [2] rfl)
      · have h := it_n hc7 h
        refine lv_aload_n hx hb dX3_goDays_9 rfl (lv_at hl 0 rfl) ?_
        obtain ⟨r8, z_ship_9, z_day_10, z_rows_11, z_columns_12, z_seas_13, hk14, h⟩ := bd6_e h
        refine cV_i (rest := []) F (kX3_goDay l D cI cJ H.size g a_z a_z_cells a_z_kinds a_z_figures a_z_longings a_z_seas z_places z_hands z_aboard z_ship_L4 z_day_L4 z_rows_L4 z_columns_L4 z_cells z_kinds z_figures z_longings z_seas_L4 r8 z_ship_9 z_day_10 z_rows_11 z_columns_12 z_seas_13 hk14) (cwV 0 hts gX3_goDays_X3_goDay rfl rfl rfl eVX3_goDay ⟨Nat.le_of_ble_eq_true rfl, Nat.le_of_ble_eq_true rfl⟩) [0, 1, 2, 3, 4, 5] hP hS (by decide) rfl rfl 0 rfl rfl rfl hl.1 (Nat.le_of_ble_eq_true rfl) ⟨Nat.le_refl _, Nat.le_refl _⟩ rfl dX3_goDays_10 (fun H locs hP hS => ?_)
        have hP : WD D A [(a_z, .inr (3, [.ref a_z_cells, .int z_places, .ref a_z_kinds, .ref a_z_figures, .ref a_z_longings, .ref a_z_seas, .int z_hands, .int z_aboard, .int z_ship_9, .int z_day_10, .int z_rows_11, .int z_columns_12])), (a_z_cells, .inl (cI, 6, .inl z_cells)), (a_z_kinds, .inl (cI, 7, .inl z_kinds)), (a_z_figures, .inl (cI, 7, .inl z_figures)), (a_z_longings, .inl (cI, 7, .inl z_longings)), (a_z_seas, .inl (cI, 7, .inl z_seas_13))] H := hP
        refine lv_if_eq (tgt := 19) hx hb dX3_goDays_13 (by decide) (fun hc15 => ?_) (fun hc15 => ?_)
        · have h := it_p hc15 h
          refine lv_iinc (v := x3_L4 + 1) (lv' := [(3, .int (x3_L4 + 1)), (0, .ref a_z), (1, .int x1_L4), (2, .int x2_L4)]) hx hb dX3_goDays_19 hl (k := 3) rfl rfl (by decide) rfl (fun ls hl => ?_)
          refine lv_goto (tgt := 4) hx hb dX3_goDays_22 (by decide) ?_
          exact ih x2_L4 (x3_L4 + 1) z_ship_9 z_day_10 z_rows_11 z_columns_12 z_seas_13 tt0 tt1 tt2 tt3 tt4 tt5 H locs ls h hP hS (lv_sub hl [1, 2, 3, 0] rfl) kE
        · have h := it_n hc15 h
          refine lv_iinc (v := x2_L4 + 1) (lv' := [(2, .int (x2_L4 + 1)), (0, .ref a_z), (1, .int x1_L4), (3, .int x3_L4)]) hx hb dX3_goDays_16 hl (k := 2) rfl rfl (by decide) rfl (fun ls hl => ?_)
          refine lv_iinc (v := x3_L4 + 1) (lv' := [(3, .int (x3_L4 + 1)), (2, .int (x2_L4 + 1)), (0, .ref a_z), (1, .int x1_L4)]) hx hb dX3_goDays_19 hl (k := 3) rfl rfl (by decide) rfl (fun ls hl => ?_)
          refine lv_goto (tgt := 4) hx hb dX3_goDays_22 (by decide) ?_
          exact ih (x2_L4 + 1) (x3_L4 + 1) z_ship_9 z_day_10 z_rows_11 z_columns_12 z_seas_13 tt0 tt1 tt2 tt3 tt4 tt5 H locs ls h hP hS (lv_sub hl [2, 3, 1, 0] rfl) kE
  have hl : lv_has ls 4 [(0, .ref a_z), (1, .int p0)] := hl
  have h := hf
  unfold fX3_goDays at h
  refine lv_iconst (v := 0) hx hb dX3_goDays_0 (by decide) ?_
  refine lv_istore_n (lv' := [(2, .int 0), (0, .ref a_z), (1, .int p0)]) hx hb dX3_goDays_1 rfl hl (by decide) rfl (fun ls hl => ?_)
  refine lv_iconst (v := 0) hx hb dX3_goDays_2 (by decide) ?_
  refine lv_istore_n (lv' := [(3, .int 0), (2, .int 0), (0, .ref a_z), (1, .int p0)]) hx hb dX3_goDays_3 rfl hl (by decide) rfl (fun ls hl => ?_)
  obtain ⟨t16, t17, t18, t19, t20, t21, hk22, h⟩ := bd6_e h
  refine L4 p0 g 0 0 z_ship z_day z_rows z_columns z_seas t16 t17 t18 t19 t20 t21 H locs ls hk22 hP hS (lv_sub hl [2, 3, 1, 0] rfl) (fun H locs ls hP hS hl => ?_)
  refine lv_iload_n hx hb dX3_goDays_25 rfl (lv_at hl 0 rfl) ?_
  exact hret 26 H locs ls t16 t17 t18 t19 t20 t21 h rfl dX3_goDays_26 hP hS
theorem eSX3_placeHere : yX3_placeHere.cls ≠ "java/lang/invoke/MethodHandle" ∧ yX3_placeHere.cls ≠ "java/lang/invoke/VarHandle" ∧ (parseMethodDescriptor yX3_placeHere.desc).map (fun d => d.parameters.length) = some 0 := by decide +kernel
theorem eVX3_placeHere : yX3_placeHere.cls = RX3 ∧ yX3_placeHere.cls ≠ "java/lang/invoke/MethodHandle" ∧ yX3_placeHere.cls ≠ "java/lang/invoke/VarHandle" ∧ (parseMethodDescriptor yX3_placeHere.desc).map (fun d => d.parameters.length) = some 0 := ⟨rfl, eSX3_placeHere⟩
abbrev rmX3_placeHere : Room := { frames := 0, cells := 0, slots := 0, locals := 0 }
def fX3_placeHere_L2_b (g : Nat) (z_places : Int32) (z_ship : Int32) (z_cells : Nat → Int32) (self : Int32 → Option ((Unit) ⊕ (Int32))) (x1_L2 : Int32) : Option ((Unit) ⊕ (Int32)) := if z_places ≤ x1_L2 then (some (.inl ())) else (gd (inB x1_L2 6) (if (z_cells x1_L2.toNatClampNeg) = z_ship then (some (.inr x1_L2)) else (self (x1_L2 + 1))))
def fX3_placeHere_L2 (g : Nat) (z_places : Int32) (z_ship : Int32) (z_cells : Nat → Int32) (n : Nat) : Int32 → Option ((Unit) ⊕ (Int32)) := lp (fX3_placeHere_L2_b g z_places z_ship z_cells) (fun _ => none) n
def fX3_placeHere (g : Nat) (z_places : Int32) (z_ship : Int32) (z_cells : Nat → Int32) : Option (Int32) := bs0 (fX3_placeHere_L2 g z_places z_ship z_cells g 0) (fun q => some q) (some (-9))
set_option maxHeartbeats 4000000 in
set_option maxRecDepth 100000 in
theorem kX3_placeHere (l : Launch) (D : va_G) (cI cJ : ClassId) (sz g : Nat) (a_z a_z_cells a_z_kinds a_z_figures a_z_longings a_z_seas : Nat) (z_places : Int32) (z_hands : Int32) (z_aboard : Int32) (z_ship : Int32) (z_day : Int32) (z_rows : Int32) (z_columns : Int32) (z_cells : Nat → Int32) (r : Int32) (hf : fX3_placeHere g z_places z_ship z_cells = some r) : Met l yX3_placeHere wsX3_placeHere rmX3_placeHere (va_Pc [.ref a_z] (sPc D (tyL cI cJ) [(a_z, .inr (3, [.ref a_z_cells, .int z_places, .ref a_z_kinds, .ref a_z_figures, .ref a_z_longings, .ref a_z_seas, .int z_hands, .int z_aboard, .int z_ship, .int z_day, .int z_rows, .int z_columns])), (a_z_cells, .inl (cI, 6, .inl z_cells))] sz)) (qI D (tyL cI cJ) [(a_z, .inr (3, [.ref a_z_cells, .int z_places, .ref a_z_kinds, .ref a_z_figures, .ref a_z_longings, .ref a_z_seas, .int z_hands, .int z_aboard, .int z_ship, .int z_day, .int z_rows, .int z_columns])), (a_z_cells, .inl (cI, 6, .inl z_cells))] sz [(a_z, .inr (3, [.ref a_z_cells, .int z_places, .ref a_z_kinds, .ref a_z_figures, .ref a_z_longings, .ref a_z_seas, .int z_hands, .int z_aboard, .int z_ship, .int z_day, .int z_rows, .int z_columns])), (a_z_cells, .inl (cI, 6, .inl z_cells))] r) 0 0 (va_A [(a_z, .inr (3, [.ref a_z_cells, .int z_places, .ref a_z_kinds, .ref a_z_figures, .ref a_z_longings, .ref a_z_seas, .int z_hands, .int z_aboard, .int z_ship, .int z_day, .int z_rows, .int z_columns])), (a_z_cells, .inl (cI, 6, .inl z_cells))] sz) := by
  refine st_i (cc := cX3_placeHere) (maxL := 2) (by decide) rfl (Nat.le_of_ble_eq_true rfl) ?_
  intro p e s m args below meth c A Q F hret0 H locs hP hS ls hl
  have F : Cx p s m args c cX3_placeHere 2 wsX3_placeHere RX3 D (tyL cI cJ) A := F
  have hx := F.1.1
  have hb := F.1.2.1
  have hown := F.1.2.2.2.1
  have hts := F.1.2.2.2.2
  have iX3 : ∀ w ∈ wsX30, w ∈ wsX3_placeHere := fun w h => (List.mem_cons_of_mem _ (List.mem_append_right _ h))
  have hret : ∀ (pc : Nat) (H : Heap) (locs : List Loc) (ls : Array Slot) (r' : Int32), some r' = some r → narrow .int (.int r') = .int r' → decode cX3_placeHere pc = .ok (.ireturn, 1) → WD D A [(a_z, .inr (3, [.ref a_z_cells, .int z_places, .ref a_z_kinds, .ref a_z_figures, .ref a_z_longings, .ref a_z_seas, .int z_hands, .int z_aboard, .int z_ship, .int z_day, .int z_rows, .int z_columns])), (a_z_cells, .inl (cI, 6, .inl z_cells))] H → va_S A s.heap H locs → W p l e rmX3_placeHere s m args below meth c H locs 0 0 Q (F0 m pc ls [.int r']) := by
    intro pc H locs ls r' h hn hd hP hS
    cases h
    exact hret0 pc H locs ls hn hd hP hS
  have L2 : ∀ (n : Nat) (x1_L2 : Int32) (x : (Unit) ⊕ (Int32)) (H : Heap) (locs : List Loc) (ls : Array Slot), fX3_placeHere_L2 g z_places z_ship z_cells n x1_L2 = some x → WD D A [(a_z, .inr (3, [.ref a_z_cells, .int z_places, .ref a_z_kinds, .ref a_z_figures, .ref a_z_longings, .ref a_z_seas, .int z_hands, .int z_aboard, .int z_ship, .int z_day, .int z_rows, .int z_columns])), (a_z_cells, .inl (cI, 6, .inl z_cells))] H → va_S A s.heap H locs → lv_has ls 2 [(0, .ref a_z), (1, .int x1_L2)] → (∀ (_ : Unit), .inl () = x → (∀ (H : Heap) (locs : List Loc) (ls : Array Slot), WD D A [(a_z, .inr (3, [.ref a_z_cells, .int z_places, .ref a_z_kinds, .ref a_z_figures, .ref a_z_longings, .ref a_z_seas, .int z_hands, .int z_aboard, .int z_ship, .int z_day, .int z_rows, .int z_columns])), (a_z_cells, .inl (cI, 6, .inl z_cells))] H → va_S A s.heap H locs → lv_has ls 2 [] → W p l e rmX3_placeHere s m args below meth c H locs 0 0 Q (F0 m 31 ls []))) → (∀ q : Int32, .inr q = x → some q = some r) → W p l e rmX3_placeHere s m args below meth c H locs 0 0 Q (F0 m 2 ls []) := by
    intro n
    induction n with
    | zero =>
      intro x1_L2 x H locs ls h
      exact (no_some h).elim
    | succ n ih =>
      intro x1_L2 x H locs ls h hP hS hl kE kR
      have h : fX3_placeHere_L2_b g z_places z_ship z_cells (fX3_placeHere_L2 g z_places z_ship z_cells n) x1_L2 = some x := h
      unfold fX3_placeHere_L2_b at h
      refine lv_iload_n hx hb dX3_placeHere_2 rfl (lv_at hl 1 rfl) ?_
      refine lv_aload_n hx hb dX3_placeHere_3 rfl (lv_at hl 0 rfl) ?_
      refine gt_X3_27 F iX3 (List.mem_cons_of_mem _ (List.mem_append_left _ (List.mem_of_getElem? (i := 0) rfl))) hP 0 rfl dX3_placeHere_4 ?_
      refine lv_icmp_ge (tgt := 31) hx hb dX3_placeHere_7 (by decide) (fun hc1 => ?_) (fun hc1 => ?_)
      · have h := it_p hc1 h
        cases h
        exact kE () rfl H locs ls hP hS (lv_sub hl [] rfl)
      · have h := it_n hc1 h
        refine lv_aload_n hx hb dX3_placeHere_10 rfl (lv_at hl 0 rfl) ?_
        refine gt_X3_9 F iX3 (List.mem_cons_of_mem _ (List.mem_append_left _ (List.mem_of_getElem? (i := 1) rfl))) hP 0 rfl dX3_placeHere_11 ?_
        refine lv_iload_n hx hb dX3_placeHere_14 rfl (lv_at hl 1 rfl) ?_
        obtain ⟨hg2, h⟩ := gd_e h
        refine r_ia F hP 1 rfl rfl hg2 dX3_placeHere_15 ?_
        refine lv_aload_n hx hb dX3_placeHere_16 rfl (lv_at hl 0 rfl) ?_
        refine gt_X3_37 F iX3 (List.mem_cons_of_mem _ (List.mem_append_left _ (List.mem_of_getElem? (i := 2) rfl))) hP 0 rfl dX3_placeHere_17 ?_
        refine lv_icmp_ne (tgt := 25) hx hb dX3_placeHere_20 (by decide) (fun hc3 => ?_) (fun hc3 => ?_)
        · have h := it_n hc3 h
          refine lv_iinc (v := x1_L2 + 1) (lv' := [(1, .int (x1_L2 + 1)), (0, .ref a_z)]) hx hb dX3_placeHere_25 hl (k := 1) rfl rfl (by decide) rfl (fun ls hl => ?_)
          refine lv_goto (tgt := 2) hx hb dX3_placeHere_28 (by decide) ?_
          exact ih (x1_L2 + 1) x H locs ls h hP hS (lv_sub hl [1, 0] rfl) kE kR
        · have h := it_p hc3 h
          refine lv_iload_n hx hb dX3_placeHere_23 rfl (lv_at hl 1 rfl) ?_
          have h := kR _ (Option.some.inj h)
          exact hret 24 H locs ls x1_L2 h rfl dX3_placeHere_24 hP hS
  have hl : lv_has ls 2 [(0, .ref a_z)] := hl
  have h := hf
  unfold fX3_placeHere at h
  refine lv_iconst (v := 0) hx hb dX3_placeHere_0 (by decide) ?_
  refine lv_istore_n (lv' := [(1, .int 0), (0, .ref a_z)]) hx hb dX3_placeHere_1 rfl hl (by decide) rfl (fun ls hl => ?_)
  obtain ⟨x5, hk4, x5a, x5b⟩ := bs0_e h
  refine L2 g 0 x5 H locs ls hk4 hP hS (lv_sub hl [1, 0] rfl) (fun _ he6 H locs ls hP hS hl => ?_) (fun q he6 => (x5b q he6.symm))
  have h := x5a () he6.symm
  refine lv_bipush (v := (-9)) hx hb dX3_placeHere_31 (by decide) ?_
  exact hret 33 H locs ls (-9) h rfl dX3_placeHere_33 hP hS
theorem eSX3_reaches : yX3_reaches.cls ≠ "java/lang/invoke/MethodHandle" ∧ yX3_reaches.cls ≠ "java/lang/invoke/VarHandle" ∧ (parseMethodDescriptor yX3_reaches.desc).map (fun d => d.parameters.length) = some 2 := by decide +kernel
theorem eVX3_reaches : yX3_reaches.cls = RX3 ∧ yX3_reaches.cls ≠ "java/lang/invoke/MethodHandle" ∧ yX3_reaches.cls ≠ "java/lang/invoke/VarHandle" ∧ (parseMethodDescriptor yX3_reaches.desc).map (fun d => d.parameters.length) = some 2 := ⟨rfl, eSX3_reaches⟩
abbrev rmX3_reaches : Room := { frames := 3, cells := 0, slots := 0, locals := 69 }
def fX3_reaches_L2_b (g : Nat) (x1_L2 : Int32) (x2_L2 : Int32) (z_hands : Int32) (z_aboard : Int32) (z_cells : Nat → Int32) (z_kinds : Nat → Int32) (z_figures : Nat → Int32) (z_longings : Nat → Int32) (self : Int32 → Int32 → Int32 → Int32 → Int32 → (Nat → Int32) → Option ((Int32 × Int32 × Int32 × Int32 × (Nat → Int32)) ⊕ (Int32 × Int32 × Int32 × Int32 × Int32 × (Nat → Int32)))) (x3_L2 : Int32) (z_ship_L2 : Int32) (z_day_L2 : Int32) (z_rows_L2 : Int32) (z_columns_L2 : Int32) (z_seas_L2 : Nat → Int32) : Option ((Int32 × Int32 × Int32 × Int32 × (Nat → Int32)) ⊕ (Int32 × Int32 × Int32 × Int32 × Int32 × (Nat → Int32))) := if x2_L2 < x3_L2 then (some (.inl (z_ship_L2, z_day_L2, z_rows_L2, z_columns_L2, z_seas_L2))) else (gd (inB x1_L2 6) (if z_ship_L2 = (z_cells x1_L2.toNatClampNeg) then (some (.inr (x3_L2, z_ship_L2, z_day_L2, z_rows_L2, z_columns_L2, z_seas_L2))) else (bd6 (fX3_goDay g z_hands z_aboard z_ship_L2 z_day_L2 z_cells z_kinds z_figures z_longings z_seas_L2) fun r9 z_ship_10 z_day_11 z_rows_12 z_columns_13 z_seas_14 => (self (x3_L2 + 1) z_ship_10 z_day_11 z_rows_12 z_columns_13 z_seas_14))))
def fX3_reaches_L2 (g : Nat) (x1_L2 : Int32) (x2_L2 : Int32) (z_hands : Int32) (z_aboard : Int32) (z_cells : Nat → Int32) (z_kinds : Nat → Int32) (z_figures : Nat → Int32) (z_longings : Nat → Int32) (n : Nat) : Int32 → Int32 → Int32 → Int32 → Int32 → (Nat → Int32) → Option ((Int32 × Int32 × Int32 × Int32 × (Nat → Int32)) ⊕ (Int32 × Int32 × Int32 × Int32 × Int32 × (Nat → Int32))) := lp (fX3_reaches_L2_b g x1_L2 x2_L2 z_hands z_aboard z_cells z_kinds z_figures z_longings) (fun _ _ _ _ _ _ => none) n
def fX3_reaches (g : Nat) (p0 : Int32) (p1 : Int32) (z_hands : Int32) (z_aboard : Int32) (z_ship : Int32) (z_day : Int32) (z_rows : Int32) (z_columns : Int32) (z_cells : Nat → Int32) (z_kinds : Nat → Int32) (z_figures : Nat → Int32) (z_longings : Nat → Int32) (z_seas : Nat → Int32) : Option (Int32 × Int32 × Int32 × Int32 × Int32 × (Nat → Int32)) := bs5 (fX3_reaches_L2 g p0 p1 z_hands z_aboard z_cells z_kinds z_figures z_longings g 0 z_ship z_day z_rows z_columns z_seas) (fun q => some q) fun t16 t17 t18 t19 t20 => (some ((-9), t16, t17, t18, t19, t20))
set_option maxHeartbeats 4000000 in
set_option maxRecDepth 100000 in
theorem kX3_reaches (l : Launch) (D : va_G) (cI cJ : ClassId) (sz g : Nat) (a_z a_z_cells a_z_kinds a_z_figures a_z_longings a_z_seas : Nat) (z_places : Int32) (z_hands : Int32) (z_aboard : Int32) (z_ship : Int32) (z_day : Int32) (z_rows : Int32) (z_columns : Int32) (z_cells : Nat → Int32) (z_kinds : Nat → Int32) (z_figures : Nat → Int32) (z_longings : Nat → Int32) (z_seas : Nat → Int32) (p0 : Int32) (p1 : Int32) (r : Int32) (n_z_ship : Int32) (n_z_day : Int32) (n_z_rows : Int32) (n_z_columns : Int32) (n_z_seas : Nat → Int32) (hf : fX3_reaches g p0 p1 z_hands z_aboard z_ship z_day z_rows z_columns z_cells z_kinds z_figures z_longings z_seas = some (r, n_z_ship, n_z_day, n_z_rows, n_z_columns, n_z_seas)) : Met l yX3_reaches wsX3_reaches rmX3_reaches (va_Pc [.ref a_z, .int p0, .int p1] (sPc D (tyL cI cJ) [(a_z, .inr (3, [.ref a_z_cells, .int z_places, .ref a_z_kinds, .ref a_z_figures, .ref a_z_longings, .ref a_z_seas, .int z_hands, .int z_aboard, .int z_ship, .int z_day, .int z_rows, .int z_columns])), (a_z_cells, .inl (cI, 6, .inl z_cells)), (a_z_kinds, .inl (cI, 7, .inl z_kinds)), (a_z_figures, .inl (cI, 7, .inl z_figures)), (a_z_longings, .inl (cI, 7, .inl z_longings)), (a_z_seas, .inl (cI, 7, .inl z_seas))] sz)) (qI D (tyL cI cJ) [(a_z, .inr (3, [.ref a_z_cells, .int z_places, .ref a_z_kinds, .ref a_z_figures, .ref a_z_longings, .ref a_z_seas, .int z_hands, .int z_aboard, .int z_ship, .int z_day, .int z_rows, .int z_columns])), (a_z_cells, .inl (cI, 6, .inl z_cells)), (a_z_kinds, .inl (cI, 7, .inl z_kinds)), (a_z_figures, .inl (cI, 7, .inl z_figures)), (a_z_longings, .inl (cI, 7, .inl z_longings)), (a_z_seas, .inl (cI, 7, .inl z_seas))] sz [(a_z, .inr (3, [.ref a_z_cells, .int z_places, .ref a_z_kinds, .ref a_z_figures, .ref a_z_longings, .ref a_z_seas, .int z_hands, .int z_aboard, .int n_z_ship, .int n_z_day, .int n_z_rows, .int n_z_columns])), (a_z_cells, .inl (cI, 6, .inl z_cells)), (a_z_kinds, .inl (cI, 7, .inl z_kinds)), (a_z_figures, .inl (cI, 7, .inl z_figures)), (a_z_longings, .inl (cI, 7, .inl z_longings)), (a_z_seas, .inl (cI, 7, .inl n_z_seas))] r) 0 0 (va_A [(a_z, .inr (3, [.ref a_z_cells, .int z_places, .ref a_z_kinds, .ref a_z_figures, .ref a_z_longings, .ref a_z_seas, .int z_hands, .int z_aboard, .int z_ship, .int z_day, .int z_rows, .int z_columns])), (a_z_cells, .inl (cI, 6, .inl z_cells)), (a_z_kinds, .inl (cI, 7, .inl z_kinds)), (a_z_figures, .inl (cI, 7, .inl z_figures)), (a_z_longings, .inl (cI, 7, .inl z_longings)), (a_z_seas, .inl (cI, 7, .inl z_seas))] sz) := by
  refine st_i (cc := cX3_reaches) (maxL := 4) (by decide) rfl (Nat.le_of_ble_eq_true rfl) ?_
  intro p e s m args below meth c A Q F hret0 H locs hP hS ls hl
  have F : Cx p s m args c cX3_reaches 4 wsX3_reaches RX3 D (tyL cI cJ) A := F
  have hx := F.1.1
  have hb := F.1.2.1
  have hown := F.1.2.2.2.1
  have hts := F.1.2.2.2.2
  have iX3 : ∀ w ∈ wsX30, w ∈ wsX3_reaches := fun w h => (List.mem_cons_of_mem _ (List.mem_append_right _ h))
  have hret : ∀ (pc : Nat) (H : Heap) (locs : List Loc) (ls : Array Slot) (r' : Int32) (m_z_ship : Int32) (m_z_day : Int32) (m_z_rows : Int32) (m_z_columns : Int32) (m_z_seas : Nat → Int32), some (r', m_z_ship, m_z_day, m_z_rows, m_z_columns, m_z_seas) = some (r, n_z_ship, n_z_day, n_z_rows, n_z_columns, n_z_seas) → narrow .int (.int r') = .int r' → decode cX3_reaches pc = .ok (.ireturn, 1) → WD D A [(a_z, .inr (3, [.ref a_z_cells, .int z_places, .ref a_z_kinds, .ref a_z_figures, .ref a_z_longings, .ref a_z_seas, .int z_hands, .int z_aboard, .int m_z_ship, .int m_z_day, .int m_z_rows, .int m_z_columns])), (a_z_cells, .inl (cI, 6, .inl z_cells)), (a_z_kinds, .inl (cI, 7, .inl z_kinds)), (a_z_figures, .inl (cI, 7, .inl z_figures)), (a_z_longings, .inl (cI, 7, .inl z_longings)), (a_z_seas, .inl (cI, 7, .inl m_z_seas))] H → va_S A s.heap H locs → W p l e rmX3_reaches s m args below meth c H locs 0 0 Q (F0 m pc ls [.int r']) := by
    intro pc H locs ls r' m_z_ship m_z_day m_z_rows m_z_columns m_z_seas h hn hd hP hS
    cases h
    exact hret0 pc H locs ls hn hd hP hS
  have L2 : ∀ (x1_L2 : Int32) (x2_L2 : Int32) (n : Nat) (x3_L2 : Int32) (z_ship_L2 : Int32) (z_day_L2 : Int32) (z_rows_L2 : Int32) (z_columns_L2 : Int32) (z_seas_L2 : Nat → Int32) (x : (Int32 × Int32 × Int32 × Int32 × (Nat → Int32)) ⊕ (Int32 × Int32 × Int32 × Int32 × Int32 × (Nat → Int32))) (H : Heap) (locs : List Loc) (ls : Array Slot), fX3_reaches_L2 g x1_L2 x2_L2 z_hands z_aboard z_cells z_kinds z_figures z_longings n x3_L2 z_ship_L2 z_day_L2 z_rows_L2 z_columns_L2 z_seas_L2 = some x → WD D A [(a_z, .inr (3, [.ref a_z_cells, .int z_places, .ref a_z_kinds, .ref a_z_figures, .ref a_z_longings, .ref a_z_seas, .int z_hands, .int z_aboard, .int z_ship_L2, .int z_day_L2, .int z_rows_L2, .int z_columns_L2])), (a_z_cells, .inl (cI, 6, .inl z_cells)), (a_z_kinds, .inl (cI, 7, .inl z_kinds)), (a_z_figures, .inl (cI, 7, .inl z_figures)), (a_z_longings, .inl (cI, 7, .inl z_longings)), (a_z_seas, .inl (cI, 7, .inl z_seas_L2))] H → va_S A s.heap H locs → lv_has ls 4 [(0, .ref a_z), (1, .int x1_L2), (2, .int x2_L2), (3, .int x3_L2)] → (∀ (tt0 : Int32) (tt1 : Int32) (tt2 : Int32) (tt3 : Int32) (tt4 : Nat → Int32), .inl (tt0, tt1, tt2, tt3, tt4) = x → (∀ (H : Heap) (locs : List Loc) (ls : Array Slot), WD D A [(a_z, .inr (3, [.ref a_z_cells, .int z_places, .ref a_z_kinds, .ref a_z_figures, .ref a_z_longings, .ref a_z_seas, .int z_hands, .int z_aboard, .int tt0, .int tt1, .int tt2, .int tt3])), (a_z_cells, .inl (cI, 6, .inl z_cells)), (a_z_kinds, .inl (cI, 7, .inl z_kinds)), (a_z_figures, .inl (cI, 7, .inl z_figures)), (a_z_longings, .inl (cI, 7, .inl z_longings)), (a_z_seas, .inl (cI, 7, .inl tt4))] H → va_S A s.heap H locs → lv_has ls 4 [] → W p l e rmX3_reaches s m args below meth c H locs 0 0 Q (F0 m 33 ls []))) → (∀ q : Int32 × Int32 × Int32 × Int32 × Int32 × (Nat → Int32), .inr q = x → some q = some (r, n_z_ship, n_z_day, n_z_rows, n_z_columns, n_z_seas)) → W p l e rmX3_reaches s m args below meth c H locs 0 0 Q (F0 m 2 ls []) := by
    intro x1_L2 x2_L2 n
    induction n with
    | zero =>
      intro x3_L2 z_ship_L2 z_day_L2 z_rows_L2 z_columns_L2 z_seas_L2 x H locs ls h
      exact (no_some h).elim
    | succ n ih =>
      intro x3_L2 z_ship_L2 z_day_L2 z_rows_L2 z_columns_L2 z_seas_L2 x H locs ls h hP hS hl kE kR
      have h : fX3_reaches_L2_b g x1_L2 x2_L2 z_hands z_aboard z_cells z_kinds z_figures z_longings (fX3_reaches_L2 g x1_L2 x2_L2 z_hands z_aboard z_cells z_kinds z_figures z_longings n) x3_L2 z_ship_L2 z_day_L2 z_rows_L2 z_columns_L2 z_seas_L2 = some x := h
      unfold fX3_reaches_L2_b at h
      refine lv_iload_n hx hb dX3_reaches_2 rfl (lv_at hl 3 rfl) ?_
      refine lv_iload_n hx hb dX3_reaches_3 rfl (lv_at hl 2 rfl) ?_
      refine lv_icmp_gt (tgt := 33) hx hb dX3_reaches_4 (by decide) (fun hc6 => ?_) (fun hc6 => ?_)
      · have h := it_p hc6 h
        cases h
        exact kE _ _ _ _ _ rfl H locs ls hP hS (lv_sub hl [] rfl)
      · have h := it_n hc6 h
        refine lv_aload_n hx hb dX3_reaches_7 rfl (lv_at hl 0 rfl) ?_
        refine gt_X3_37 F iX3 (List.mem_cons_of_mem _ (List.mem_append_left _ (List.mem_append_left _ (List.mem_of_getElem? (i := 0) rfl)))) hP 0 rfl dX3_reaches_8 ?_
        refine lv_aload_n hx hb dX3_reaches_11 rfl (lv_at hl 0 rfl) ?_
        refine gt_X3_9 F iX3 (List.mem_cons_of_mem _ (List.mem_append_left _ (List.mem_append_left _ (List.mem_of_getElem? (i := 1) rfl)))) hP 0 rfl dX3_reaches_12 ?_
        refine lv_iload_n hx hb dX3_reaches_15 rfl (lv_at hl 1 rfl) ?_
        obtain ⟨hg7, h⟩ := gd_e h
        refine r_ia F hP 1 rfl rfl hg7 dX3_reaches_16 ?_
        refine lv_icmp_ne (tgt := 22) hx hb dX3_reaches_17 (by decide) (fun hc8 => ?_) (fun hc8 => ?_)
        · have h := it_n hc8 h
          refine lv_aload_n hx hb dX3_reaches_22 rfl (lv_at hl 0 rfl) ?_
          obtain ⟨r9, z_ship_10, z_day_11, z_rows_12, z_columns_13, z_seas_14, hk15, h⟩ := bd6_e h
          refine cV_i (rest := []) F (kX3_goDay l D cI cJ H.size g a_z a_z_cells a_z_kinds a_z_figures a_z_longings a_z_seas z_places z_hands z_aboard z_ship_L2 z_day_L2 z_rows_L2 z_columns_L2 z_cells z_kinds z_figures z_longings z_seas_L2 r9 z_ship_10 z_day_11 z_rows_12 z_columns_13 z_seas_14 hk15) (cwV 0 hts gX3_reaches_X3_goDay rfl rfl rfl eVX3_goDay ⟨Nat.le_of_ble_eq_true rfl, Nat.le_of_ble_eq_true rfl⟩) [0, 1, 2, 3, 4, 5] hP hS (by decide) rfl rfl 0 rfl rfl rfl hl.1 (Nat.le_of_ble_eq_true rfl) ⟨Nat.le_refl _, Nat.le_refl _⟩ rfl dX3_reaches_23 (fun H locs hP hS => ?_)
          have hP : WD D A [(a_z, .inr (3, [.ref a_z_cells, .int z_places, .ref a_z_kinds, .ref a_z_figures, .ref a_z_longings, .ref a_z_seas, .int z_hands, .int z_aboard, .int z_ship_10, .int z_day_11, .int z_rows_12, .int z_columns_13])), (a_z_cells, .inl (cI, 6, .inl z_cells)), (a_z_kinds, .inl (cI, 7, .inl z_kinds)), (a_z_figures, .inl (cI, 7, .inl z_figures)), (a_z_longings, .inl (cI, 7, .inl z_longings)), (a_z_seas, .inl (cI, 7, .inl z_seas_14))] H := hP
          refine lv_pop hx hb dX3_reaches_26 rfl ?_
          refine lv_iinc (v := x3_L2 + 1) (lv' := [(3, .int (x3_L2 + 1)), (0, .ref a_z), (1, .int x1_L2), (2, .int x2_L2)]) hx hb dX3_reaches_27 hl (k := 3) rfl rfl (by decide) rfl (fun ls hl => ?_)
          refine lv_goto (tgt := 2) hx hb dX3_reaches_30 (by decide) ?_
          exact ih (x3_L2 + 1) z_ship_10 z_day_11 z_rows_12 z_columns_13 z_seas_14 x H locs ls h hP hS (lv_sub hl [1, 2, 3, 0] rfl) kE kR
        · have h := it_p hc8 h
          refine lv_iload_n hx hb dX3_reaches_20 rfl (lv_at hl 3 rfl) ?_
          have h := kR _ (Option.some.inj h)
          exact hret 21 H locs ls x3_L2 z_ship_L2 z_day_L2 z_rows_L2 z_columns_L2 z_seas_L2 h rfl dX3_reaches_21 hP hS
  have hl : lv_has ls 4 [(0, .ref a_z), (1, .int p0), (2, .int p1)] := hl
  have h := hf
  unfold fX3_reaches at h
  refine lv_iconst (v := 0) hx hb dX3_reaches_0 (by decide) ?_
  refine lv_istore_n (lv' := [(3, .int 0), (0, .ref a_z), (1, .int p0), (2, .int p1)]) hx hb dX3_reaches_1 rfl hl (by decide) rfl (fun ls hl => ?_)
  obtain ⟨x22, hk21, x22a, x22b⟩ := bs5_e h
  refine L2 p0 p1 g 0 z_ship z_day z_rows z_columns z_seas x22 H locs ls hk21 hP hS (lv_sub hl [1, 2, 3, 0] rfl) (fun t16 t17 t18 t19 t20 he23 H locs ls hP hS hl => ?_) (fun q he23 => (x22b q he23.symm))
  have h := x22a t16 t17 t18 t19 t20 he23.symm
  refine lv_bipush (v := (-9)) hx hb dX3_reaches_33 (by decide) ?_
  exact hret 35 H locs ls (-9) t16 t17 t18 t19 t20 h rfl dX3_reaches_35 hP hS
theorem eSX3_firstPlace : yX3_firstPlace.cls ≠ "java/lang/invoke/MethodHandle" ∧ yX3_firstPlace.cls ≠ "java/lang/invoke/VarHandle" ∧ (parseMethodDescriptor yX3_firstPlace.desc).map (fun d => d.parameters.length) = some 1 := by decide +kernel
theorem eVX3_firstPlace : yX3_firstPlace.cls = RX3 ∧ yX3_firstPlace.cls ≠ "java/lang/invoke/MethodHandle" ∧ yX3_firstPlace.cls ≠ "java/lang/invoke/VarHandle" ∧ (parseMethodDescriptor yX3_firstPlace.desc).map (fun d => d.parameters.length) = some 1 := ⟨rfl, eSX3_firstPlace⟩
abbrev rmX3_firstPlace : Room := { frames := 3, cells := 0, slots := 0, locals := 69 }
def fX3_firstPlace_L2_b (g : Nat) (x1_L2 : Int32) (z_places : Int32) (z_hands : Int32) (z_aboard : Int32) (z_cells : Nat → Int32) (z_kinds : Nat → Int32) (z_figures : Nat → Int32) (z_longings : Nat → Int32) (self : Int32 → Int32 → Int32 → Int32 → Int32 → (Nat → Int32) → Option ((Int32 × Int32 × Int32 × Int32 × (Nat → Int32)) ⊕ (Int32 × Int32 × Int32 × Int32 × Int32 × (Nat → Int32)))) (x2_L2 : Int32) (z_ship_L2 : Int32) (z_day_L2 : Int32) (z_rows_L2 : Int32) (z_columns_L2 : Int32) (z_seas_L2 : Nat → Int32) : Option ((Int32 × Int32 × Int32 × Int32 × (Nat → Int32)) ⊕ (Int32 × Int32 × Int32 × Int32 × Int32 × (Nat → Int32))) := if x1_L2 < x2_L2 then (some (.inl (z_ship_L2, z_day_L2, z_rows_L2, z_columns_L2, z_seas_L2))) else (bd1 (fX3_placeHere g z_places z_ship_L2 z_cells) fun r7 => (if r7 = (-9) then (bd6 (fX3_goDay g z_hands z_aboard z_ship_L2 z_day_L2 z_cells z_kinds z_figures z_longings z_seas_L2) fun r10 z_ship_11 z_day_12 z_rows_13 z_columns_14 z_seas_15 => (self (x2_L2 + 1) z_ship_11 z_day_12 z_rows_13 z_columns_14 z_seas_15)) else (some (.inr (r7, z_ship_L2, z_day_L2, z_rows_L2, z_columns_L2, z_seas_L2)))))
def fX3_firstPlace_L2 (g : Nat) (x1_L2 : Int32) (z_places : Int32) (z_hands : Int32) (z_aboard : Int32) (z_cells : Nat → Int32) (z_kinds : Nat → Int32) (z_figures : Nat → Int32) (z_longings : Nat → Int32) (n : Nat) : Int32 → Int32 → Int32 → Int32 → Int32 → (Nat → Int32) → Option ((Int32 × Int32 × Int32 × Int32 × (Nat → Int32)) ⊕ (Int32 × Int32 × Int32 × Int32 × Int32 × (Nat → Int32))) := lp (fX3_firstPlace_L2_b g x1_L2 z_places z_hands z_aboard z_cells z_kinds z_figures z_longings) (fun _ _ _ _ _ _ => none) n
def fX3_firstPlace (g : Nat) (p0 : Int32) (z_places : Int32) (z_hands : Int32) (z_aboard : Int32) (z_ship : Int32) (z_day : Int32) (z_rows : Int32) (z_columns : Int32) (z_cells : Nat → Int32) (z_kinds : Nat → Int32) (z_figures : Nat → Int32) (z_longings : Nat → Int32) (z_seas : Nat → Int32) : Option (Int32 × Int32 × Int32 × Int32 × Int32 × (Nat → Int32)) := bs5 (fX3_firstPlace_L2 g p0 z_places z_hands z_aboard z_cells z_kinds z_figures z_longings g 0 z_ship z_day z_rows z_columns z_seas) (fun q => some q) fun t17 t18 t19 t20 t21 => (some ((-9), t17, t18, t19, t20, t21))
set_option maxHeartbeats 4000000 in
set_option maxRecDepth 100000 in
theorem kX3_firstPlace (l : Launch) (D : va_G) (cI cJ : ClassId) (sz g : Nat) (a_z a_z_cells a_z_kinds a_z_figures a_z_longings a_z_seas : Nat) (z_places : Int32) (z_hands : Int32) (z_aboard : Int32) (z_ship : Int32) (z_day : Int32) (z_rows : Int32) (z_columns : Int32) (z_cells : Nat → Int32) (z_kinds : Nat → Int32) (z_figures : Nat → Int32) (z_longings : Nat → Int32) (z_seas : Nat → Int32) (p0 : Int32) (r : Int32) (n_z_ship : Int32) (n_z_day : Int32) (n_z_rows : Int32) (n_z_columns : Int32) (n_z_seas : Nat → Int32) (hf : fX3_firstPlace g p0 z_places z_hands z_aboard z_ship z_day z_rows z_columns z_cells z_kinds z_figures z_longings z_seas = some (r, n_z_ship, n_z_day, n_z_rows, n_z_columns, n_z_seas)) : Met l yX3_firstPlace wsX3_firstPlace rmX3_firstPlace (va_Pc [.ref a_z, .int p0] (sPc D (tyL cI cJ) [(a_z, .inr (3, [.ref a_z_cells, .int z_places, .ref a_z_kinds, .ref a_z_figures, .ref a_z_longings, .ref a_z_seas, .int z_hands, .int z_aboard, .int z_ship, .int z_day, .int z_rows, .int z_columns])), (a_z_cells, .inl (cI, 6, .inl z_cells)), (a_z_kinds, .inl (cI, 7, .inl z_kinds)), (a_z_figures, .inl (cI, 7, .inl z_figures)), (a_z_longings, .inl (cI, 7, .inl z_longings)), (a_z_seas, .inl (cI, 7, .inl z_seas))] sz)) (qI D (tyL cI cJ) [(a_z, .inr (3, [.ref a_z_cells, .int z_places, .ref a_z_kinds, .ref a_z_figures, .ref a_z_longings, .ref a_z_seas, .int z_hands, .int z_aboard, .int z_ship, .int z_day, .int z_rows, .int z_columns])), (a_z_cells, .inl (cI, 6, .inl z_cells)), (a_z_kinds, .inl (cI, 7, .inl z_kinds)), (a_z_figures, .inl (cI, 7, .inl z_figures)), (a_z_longings, .inl (cI, 7, .inl z_longings)), (a_z_seas, .inl (cI, 7, .inl z_seas))] sz [(a_z, .inr (3, [.ref a_z_cells, .int z_places, .ref a_z_kinds, .ref a_z_figures, .ref a_z_longings, .ref a_z_seas, .int z_hands, .int z_aboard, .int n_z_ship, .int n_z_day, .int n_z_rows, .int n_z_columns])), (a_z_cells, .inl (cI, 6, .inl z_cells)), (a_z_kinds, .inl (cI, 7, .inl z_kinds)), (a_z_figures, .inl (cI, 7, .inl z_figures)), (a_z_longings, .inl (cI, 7, .inl z_longings)), (a_z_seas, .inl (cI, 7, .inl n_z_seas))] r) 0 0 (va_A [(a_z, .inr (3, [.ref a_z_cells, .int z_places, .ref a_z_kinds, .ref a_z_figures, .ref a_z_longings, .ref a_z_seas, .int z_hands, .int z_aboard, .int z_ship, .int z_day, .int z_rows, .int z_columns])), (a_z_cells, .inl (cI, 6, .inl z_cells)), (a_z_kinds, .inl (cI, 7, .inl z_kinds)), (a_z_figures, .inl (cI, 7, .inl z_figures)), (a_z_longings, .inl (cI, 7, .inl z_longings)), (a_z_seas, .inl (cI, 7, .inl z_seas))] sz) := by
  refine st_i (cc := cX3_firstPlace) (maxL := 4) (by decide) rfl (Nat.le_of_ble_eq_true rfl) ?_
  intro p e s m args below meth c A Q F hret0 H locs hP hS ls hl
  have F : Cx p s m args c cX3_firstPlace 4 wsX3_firstPlace RX3 D (tyL cI cJ) A := F
  have hx := F.1.1
  have hb := F.1.2.1
  have hown := F.1.2.2.2.1
  have hts := F.1.2.2.2.2
  have hret : ∀ (pc : Nat) (H : Heap) (locs : List Loc) (ls : Array Slot) (r' : Int32) (m_z_ship : Int32) (m_z_day : Int32) (m_z_rows : Int32) (m_z_columns : Int32) (m_z_seas : Nat → Int32), some (r', m_z_ship, m_z_day, m_z_rows, m_z_columns, m_z_seas) = some (r, n_z_ship, n_z_day, n_z_rows, n_z_columns, n_z_seas) → narrow .int (.int r') = .int r' → decode cX3_firstPlace pc = .ok (.ireturn, 1) → WD D A [(a_z, .inr (3, [.ref a_z_cells, .int z_places, .ref a_z_kinds, .ref a_z_figures, .ref a_z_longings, .ref a_z_seas, .int z_hands, .int z_aboard, .int m_z_ship, .int m_z_day, .int m_z_rows, .int m_z_columns])), (a_z_cells, .inl (cI, 6, .inl z_cells)), (a_z_kinds, .inl (cI, 7, .inl z_kinds)), (a_z_figures, .inl (cI, 7, .inl z_figures)), (a_z_longings, .inl (cI, 7, .inl z_longings)), (a_z_seas, .inl (cI, 7, .inl m_z_seas))] H → va_S A s.heap H locs → W p l e rmX3_firstPlace s m args below meth c H locs 0 0 Q (F0 m pc ls [.int r']) := by
    intro pc H locs ls r' m_z_ship m_z_day m_z_rows m_z_columns m_z_seas h hn hd hP hS
    cases h
    exact hret0 pc H locs ls hn hd hP hS
  have L2 : ∀ (x1_L2 : Int32) (n : Nat) (x2_L2 : Int32) (z_ship_L2 : Int32) (z_day_L2 : Int32) (z_rows_L2 : Int32) (z_columns_L2 : Int32) (z_seas_L2 : Nat → Int32) (x : (Int32 × Int32 × Int32 × Int32 × (Nat → Int32)) ⊕ (Int32 × Int32 × Int32 × Int32 × Int32 × (Nat → Int32))) (H : Heap) (locs : List Loc) (ls : Array Slot), fX3_firstPlace_L2 g x1_L2 z_places z_hands z_aboard z_cells z_kinds z_figures z_longings n x2_L2 z_ship_L2 z_day_L2 z_rows_L2 z_columns_L2 z_seas_L2 = some x → WD D A [(a_z, .inr (3, [.ref a_z_cells, .int z_places, .ref a_z_kinds, .ref a_z_figures, .ref a_z_longings, .ref a_z_seas, .int z_hands, .int z_aboard, .int z_ship_L2, .int z_day_L2, .int z_rows_L2, .int z_columns_L2])), (a_z_cells, .inl (cI, 6, .inl z_cells)), (a_z_kinds, .inl (cI, 7, .inl z_kinds)), (a_z_figures, .inl (cI, 7, .inl z_figures)), (a_z_longings, .inl (cI, 7, .inl z_longings)), (a_z_seas, .inl (cI, 7, .inl z_seas_L2))] H → va_S A s.heap H locs → lv_has ls 4 [(0, .ref a_z), (1, .int x1_L2), (2, .int x2_L2)] → (∀ (tt0 : Int32) (tt1 : Int32) (tt2 : Int32) (tt3 : Int32) (tt4 : Nat → Int32), .inl (tt0, tt1, tt2, tt3, tt4) = x → (∀ (H : Heap) (locs : List Loc) (ls : Array Slot), WD D A [(a_z, .inr (3, [.ref a_z_cells, .int z_places, .ref a_z_kinds, .ref a_z_figures, .ref a_z_longings, .ref a_z_seas, .int z_hands, .int z_aboard, .int tt0, .int tt1, .int tt2, .int tt3])), (a_z_cells, .inl (cI, 6, .inl z_cells)), (a_z_kinds, .inl (cI, 7, .inl z_kinds)), (a_z_figures, .inl (cI, 7, .inl z_figures)), (a_z_longings, .inl (cI, 7, .inl z_longings)), (a_z_seas, .inl (cI, 7, .inl tt4))] H → va_S A s.heap H locs → lv_has ls 4 [] → W p l e rmX3_firstPlace s m args below meth c H locs 0 0 Q (F0 m 31 ls []))) → (∀ q : Int32 × Int32 × Int32 × Int32 × Int32 × (Nat → Int32), .inr q = x → some q = some (r, n_z_ship, n_z_day, n_z_rows, n_z_columns, n_z_seas)) → W p l e rmX3_firstPlace s m args below meth c H locs 0 0 Q (F0 m 2 ls []) := by
    intro x1_L2 n
    induction n with
    | zero =>
      intro x2_L2 z_ship_L2 z_day_L2 z_rows_L2 z_columns_L2 z_seas_L2 x H locs ls h
      exact (no_some h).elim
    | succ n ih =>
      intro x2_L2 z_ship_L2 z_day_L2 z_rows_L2 z_columns_L2 z_seas_L2 x H locs ls h hP hS hl kE kR
      have h : fX3_firstPlace_L2_b g x1_L2 z_places z_hands z_aboard z_cells z_kinds z_figures z_longings (fX3_firstPlace_L2 g x1_L2 z_places z_hands z_aboard z_cells z_kinds z_figures z_longings n) x2_L2 z_ship_L2 z_day_L2 z_rows_L2 z_columns_L2 z_seas_L2 = some x := h
      unfold fX3_firstPlace_L2_b at h
      refine lv_iload_n hx hb dX3_firstPlace_2 rfl (lv_at hl 2 rfl) ?_
      refine lv_iload_n hx hb dX3_firstPlace_3 rfl (lv_at hl 1 rfl) ?_
      refine lv_icmp_gt (tgt := 31) hx hb dX3_firstPlace_4 (by decide) (fun hc6 => ?_) (fun hc6 => ?_)
      · have h := it_p hc6 h
        cases h
        exact kE _ _ _ _ _ rfl H locs ls hP hS (lv_sub hl [] rfl)
      · have h := it_n hc6 h
        refine lv_aload_n hx hb dX3_firstPlace_7 rfl (lv_at hl 0 rfl) ?_
        obtain ⟨r7, hk8, h⟩ := bd1_e h
        refine cV_i (rest := []) F (kX3_placeHere l D cI cJ H.size g a_z a_z_cells a_z_kinds a_z_figures a_z_longings a_z_seas z_places z_hands z_aboard z_ship_L2 z_day_L2 z_rows_L2 z_columns_L2 z_cells r7 hk8) (cwV 0 hts gX3_firstPlace_X3_placeHere rfl rfl rfl eVX3_placeHere ⟨Nat.le_of_ble_eq_true rfl, Nat.le_of_ble_eq_true rfl⟩) [0, 1] hP hS (by decide) rfl rfl 0 rfl rfl rfl hl.1 (Nat.le_of_ble_eq_true rfl) ⟨Nat.le_refl _, Nat.le_refl _⟩ rfl dX3_firstPlace_8 (fun H locs hP hS => ?_)
        have hP : WD D A [(a_z, .inr (3, [.ref a_z_cells, .int z_places, .ref a_z_kinds, .ref a_z_figures, .ref a_z_longings, .ref a_z_seas, .int z_hands, .int z_aboard, .int z_ship_L2, .int z_day_L2, .int z_rows_L2, .int z_columns_L2])), (a_z_cells, .inl (cI, 6, .inl z_cells)), (a_z_kinds, .inl (cI, 7, .inl z_kinds)), (a_z_figures, .inl (cI, 7, .inl z_figures)), (a_z_longings, .inl (cI, 7, .inl z_longings)), (a_z_seas, .inl (cI, 7, .inl z_seas_L2))] H := hP
        refine lv_istore_n (lv' := [(3, .int r7), (0, .ref a_z), (1, .int x1_L2), (2, .int x2_L2)]) hx hb dX3_firstPlace_11 rfl hl (by decide) rfl (fun ls hl => ?_)
        refine lv_iload_n hx hb dX3_firstPlace_12 rfl (lv_at hl 0 rfl) ?_
        refine lv_bipush (v := (-9)) hx hb dX3_firstPlace_13 (by decide) ?_
        refine lv_icmp_eq (tgt := 20) hx hb dX3_firstPlace_15 (by decide) (fun hc9 => ?_) (fun hc9 => ?_)
        · have h := it_p hc9 h
          refine lv_aload_n hx hb dX3_firstPlace_20 rfl (lv_at hl 1 rfl) ?_
          obtain ⟨r10, z_ship_11, z_day_12, z_rows_13, z_columns_14, z_seas_15, hk16, h⟩ := bd6_e h
          refine cV_i (rest := []) F (kX3_goDay l D cI cJ H.size g a_z a_z_cells a_z_kinds a_z_figures a_z_longings a_z_seas z_places z_hands z_aboard z_ship_L2 z_day_L2 z_rows_L2 z_columns_L2 z_cells z_kinds z_figures z_longings z_seas_L2 r10 z_ship_11 z_day_12 z_rows_13 z_columns_14 z_seas_15 hk16) (cwV 0 hts gX3_firstPlace_X3_goDay rfl rfl rfl eVX3_goDay ⟨Nat.le_of_ble_eq_true rfl, Nat.le_of_ble_eq_true rfl⟩) [0, 1, 2, 3, 4, 5] hP hS (by decide) rfl rfl 0 rfl rfl rfl hl.1 (Nat.le_of_ble_eq_true rfl) ⟨Nat.le_refl _, Nat.le_refl _⟩ rfl dX3_firstPlace_21 (fun H locs hP hS => ?_)
          have hP : WD D A [(a_z, .inr (3, [.ref a_z_cells, .int z_places, .ref a_z_kinds, .ref a_z_figures, .ref a_z_longings, .ref a_z_seas, .int z_hands, .int z_aboard, .int z_ship_11, .int z_day_12, .int z_rows_13, .int z_columns_14])), (a_z_cells, .inl (cI, 6, .inl z_cells)), (a_z_kinds, .inl (cI, 7, .inl z_kinds)), (a_z_figures, .inl (cI, 7, .inl z_figures)), (a_z_longings, .inl (cI, 7, .inl z_longings)), (a_z_seas, .inl (cI, 7, .inl z_seas_15))] H := hP
          refine lv_pop hx hb dX3_firstPlace_24 rfl ?_
          refine lv_iinc (v := x2_L2 + 1) (lv' := [(2, .int (x2_L2 + 1)), (3, .int r7), (0, .ref a_z), (1, .int x1_L2)]) hx hb dX3_firstPlace_25 hl (k := 3) rfl rfl (by decide) rfl (fun ls hl => ?_)
          refine lv_goto (tgt := 2) hx hb dX3_firstPlace_28 (by decide) ?_
          exact ih (x2_L2 + 1) z_ship_11 z_day_12 z_rows_13 z_columns_14 z_seas_15 x H locs ls h hP hS (lv_sub hl [2, 3, 0] rfl) kE kR
        · have h := it_n hc9 h
          refine lv_iload_n hx hb dX3_firstPlace_18 rfl (lv_at hl 0 rfl) ?_
          have h := kR _ (Option.some.inj h)
          exact hret 19 H locs ls r7 z_ship_L2 z_day_L2 z_rows_L2 z_columns_L2 z_seas_L2 h rfl dX3_firstPlace_19 hP hS
  have hl : lv_has ls 4 [(0, .ref a_z), (1, .int p0)] := hl
  have h := hf
  unfold fX3_firstPlace at h
  refine lv_iconst (v := 0) hx hb dX3_firstPlace_0 (by decide) ?_
  refine lv_istore_n (lv' := [(2, .int 0), (0, .ref a_z), (1, .int p0)]) hx hb dX3_firstPlace_1 rfl hl (by decide) rfl (fun ls hl => ?_)
  obtain ⟨x23, hk22, x23a, x23b⟩ := bs5_e h
  refine L2 p0 g 0 z_ship z_day z_rows z_columns z_seas x23 H locs ls hk22 hP hS (lv_sub hl [1, 2, 0] rfl) (fun t17 t18 t19 t20 t21 he24 H locs ls hP hS hl => ?_) (fun q he24 => (x23b q he24.symm))
  have h := x23a t17 t18 t19 t20 t21 he24.symm
  refine lv_bipush (v := (-9)) hx hb dX3_firstPlace_31 (by decide) ?_
  exact hret 33 H locs ls (-9) t17 t18 t19 t20 t21 h rfl dX3_firstPlace_33 hP hS
theorem eSX3_firstSpin : yX3_firstSpin.cls ≠ "java/lang/invoke/MethodHandle" ∧ yX3_firstSpin.cls ≠ "java/lang/invoke/VarHandle" ∧ (parseMethodDescriptor yX3_firstSpin.desc).map (fun d => d.parameters.length) = some 1 := by decide +kernel
theorem eVX3_firstSpin : yX3_firstSpin.cls = RX3 ∧ yX3_firstSpin.cls ≠ "java/lang/invoke/MethodHandle" ∧ yX3_firstSpin.cls ≠ "java/lang/invoke/VarHandle" ∧ (parseMethodDescriptor yX3_firstSpin.desc).map (fun d => d.parameters.length) = some 1 := ⟨rfl, eSX3_firstSpin⟩
abbrev rmX3_firstSpin : Room := { frames := 3, cells := 0, slots := 0, locals := 69 }
def fX3_firstSpin_L2_b (g : Nat) (x1_L2 : Int32) (z_hands : Int32) (z_aboard : Int32) (z_cells : Nat → Int32) (z_kinds : Nat → Int32) (z_figures : Nat → Int32) (z_longings : Nat → Int32) (self : Int32 → Int32 → Int32 → Int32 → Int32 → (Nat → Int32) → Option ((Int32 × Int32 × Int32 × Int32 × (Nat → Int32)) ⊕ (Int32 × Int32 × Int32 × Int32 × Int32 × (Nat → Int32)))) (x2_L2 : Int32) (z_ship_L2 : Int32) (z_day_L2 : Int32) (z_rows_L2 : Int32) (z_columns_L2 : Int32) (z_seas_L2 : Nat → Int32) : Option ((Int32 × Int32 × Int32 × Int32 × (Nat → Int32)) ⊕ (Int32 × Int32 × Int32 × Int32 × Int32 × (Nat → Int32))) := if x1_L2 < x2_L2 then (some (.inl (z_ship_L2, z_day_L2, z_rows_L2, z_columns_L2, z_seas_L2))) else (bd3 (fX3_points g z_hands z_aboard z_ship_L2 z_cells z_kinds z_figures z_longings z_seas_L2) fun r7 z_rows_8 z_columns_9 => (if r7 = (-9) then (some (.inr (x2_L2, z_ship_L2, z_day_L2, z_rows_8, z_columns_9, z_seas_L2))) else (bd6 (fX3_goDay g z_hands z_aboard z_ship_L2 z_day_L2 z_cells z_kinds z_figures z_longings z_seas_L2) fun r12 z_ship_13 z_day_14 z_rows_15 z_columns_16 z_seas_17 => (self (x2_L2 + 1) z_ship_13 z_day_14 z_rows_15 z_columns_16 z_seas_17))))
def fX3_firstSpin_L2 (g : Nat) (x1_L2 : Int32) (z_hands : Int32) (z_aboard : Int32) (z_cells : Nat → Int32) (z_kinds : Nat → Int32) (z_figures : Nat → Int32) (z_longings : Nat → Int32) (n : Nat) : Int32 → Int32 → Int32 → Int32 → Int32 → (Nat → Int32) → Option ((Int32 × Int32 × Int32 × Int32 × (Nat → Int32)) ⊕ (Int32 × Int32 × Int32 × Int32 × Int32 × (Nat → Int32))) := lp (fX3_firstSpin_L2_b g x1_L2 z_hands z_aboard z_cells z_kinds z_figures z_longings) (fun _ _ _ _ _ _ => none) n
def fX3_firstSpin (g : Nat) (p0 : Int32) (z_hands : Int32) (z_aboard : Int32) (z_ship : Int32) (z_day : Int32) (z_rows : Int32) (z_columns : Int32) (z_cells : Nat → Int32) (z_kinds : Nat → Int32) (z_figures : Nat → Int32) (z_longings : Nat → Int32) (z_seas : Nat → Int32) : Option (Int32 × Int32 × Int32 × Int32 × Int32 × (Nat → Int32)) := bs5 (fX3_firstSpin_L2 g p0 z_hands z_aboard z_cells z_kinds z_figures z_longings g 0 z_ship z_day z_rows z_columns z_seas) (fun q => some q) fun t19 t20 t21 t22 t23 => (some ((-9), t19, t20, t21, t22, t23))
set_option maxHeartbeats 4000000 in
set_option maxRecDepth 100000 in
theorem kX3_firstSpin (l : Launch) (D : va_G) (cI cJ : ClassId) (sz g : Nat) (a_z a_z_cells a_z_kinds a_z_figures a_z_longings a_z_seas : Nat) (z_places : Int32) (z_hands : Int32) (z_aboard : Int32) (z_ship : Int32) (z_day : Int32) (z_rows : Int32) (z_columns : Int32) (z_cells : Nat → Int32) (z_kinds : Nat → Int32) (z_figures : Nat → Int32) (z_longings : Nat → Int32) (z_seas : Nat → Int32) (p0 : Int32) (r : Int32) (n_z_ship : Int32) (n_z_day : Int32) (n_z_rows : Int32) (n_z_columns : Int32) (n_z_seas : Nat → Int32) (hf : fX3_firstSpin g p0 z_hands z_aboard z_ship z_day z_rows z_columns z_cells z_kinds z_figures z_longings z_seas = some (r, n_z_ship, n_z_day, n_z_rows, n_z_columns, n_z_seas)) : Met l yX3_firstSpin wsX3_firstSpin rmX3_firstSpin (va_Pc [.ref a_z, .int p0] (sPc D (tyL cI cJ) [(a_z, .inr (3, [.ref a_z_cells, .int z_places, .ref a_z_kinds, .ref a_z_figures, .ref a_z_longings, .ref a_z_seas, .int z_hands, .int z_aboard, .int z_ship, .int z_day, .int z_rows, .int z_columns])), (a_z_cells, .inl (cI, 6, .inl z_cells)), (a_z_kinds, .inl (cI, 7, .inl z_kinds)), (a_z_figures, .inl (cI, 7, .inl z_figures)), (a_z_longings, .inl (cI, 7, .inl z_longings)), (a_z_seas, .inl (cI, 7, .inl z_seas))] sz)) (qI D (tyL cI cJ) [(a_z, .inr (3, [.ref a_z_cells, .int z_places, .ref a_z_kinds, .ref a_z_figures, .ref a_z_longings, .ref a_z_seas, .int z_hands, .int z_aboard, .int z_ship, .int z_day, .int z_rows, .int z_columns])), (a_z_cells, .inl (cI, 6, .inl z_cells)), (a_z_kinds, .inl (cI, 7, .inl z_kinds)), (a_z_figures, .inl (cI, 7, .inl z_figures)), (a_z_longings, .inl (cI, 7, .inl z_longings)), (a_z_seas, .inl (cI, 7, .inl z_seas))] sz [(a_z, .inr (3, [.ref a_z_cells, .int z_places, .ref a_z_kinds, .ref a_z_figures, .ref a_z_longings, .ref a_z_seas, .int z_hands, .int z_aboard, .int n_z_ship, .int n_z_day, .int n_z_rows, .int n_z_columns])), (a_z_cells, .inl (cI, 6, .inl z_cells)), (a_z_kinds, .inl (cI, 7, .inl z_kinds)), (a_z_figures, .inl (cI, 7, .inl z_figures)), (a_z_longings, .inl (cI, 7, .inl z_longings)), (a_z_seas, .inl (cI, 7, .inl n_z_seas))] r) 0 0 (va_A [(a_z, .inr (3, [.ref a_z_cells, .int z_places, .ref a_z_kinds, .ref a_z_figures, .ref a_z_longings, .ref a_z_seas, .int z_hands, .int z_aboard, .int z_ship, .int z_day, .int z_rows, .int z_columns])), (a_z_cells, .inl (cI, 6, .inl z_cells)), (a_z_kinds, .inl (cI, 7, .inl z_kinds)), (a_z_figures, .inl (cI, 7, .inl z_figures)), (a_z_longings, .inl (cI, 7, .inl z_longings)), (a_z_seas, .inl (cI, 7, .inl z_seas))] sz) := by
  refine st_i (cc := cX3_firstSpin) (maxL := 3) (by decide) rfl (Nat.le_of_ble_eq_true rfl) ?_
  intro p e s m args below meth c A Q F hret0 H locs hP hS ls hl
  have F : Cx p s m args c cX3_firstSpin 3 wsX3_firstSpin RX3 D (tyL cI cJ) A := F
  have hx := F.1.1
  have hb := F.1.2.1
  have hown := F.1.2.2.2.1
  have hts := F.1.2.2.2.2
  have hret : ∀ (pc : Nat) (H : Heap) (locs : List Loc) (ls : Array Slot) (r' : Int32) (m_z_ship : Int32) (m_z_day : Int32) (m_z_rows : Int32) (m_z_columns : Int32) (m_z_seas : Nat → Int32), some (r', m_z_ship, m_z_day, m_z_rows, m_z_columns, m_z_seas) = some (r, n_z_ship, n_z_day, n_z_rows, n_z_columns, n_z_seas) → narrow .int (.int r') = .int r' → decode cX3_firstSpin pc = .ok (.ireturn, 1) → WD D A [(a_z, .inr (3, [.ref a_z_cells, .int z_places, .ref a_z_kinds, .ref a_z_figures, .ref a_z_longings, .ref a_z_seas, .int z_hands, .int z_aboard, .int m_z_ship, .int m_z_day, .int m_z_rows, .int m_z_columns])), (a_z_cells, .inl (cI, 6, .inl z_cells)), (a_z_kinds, .inl (cI, 7, .inl z_kinds)), (a_z_figures, .inl (cI, 7, .inl z_figures)), (a_z_longings, .inl (cI, 7, .inl z_longings)), (a_z_seas, .inl (cI, 7, .inl m_z_seas))] H → va_S A s.heap H locs → W p l e rmX3_firstSpin s m args below meth c H locs 0 0 Q (F0 m pc ls [.int r']) := by
    intro pc H locs ls r' m_z_ship m_z_day m_z_rows m_z_columns m_z_seas h hn hd hP hS
    cases h
    exact hret0 pc H locs ls hn hd hP hS
  have L2 : ∀ (x1_L2 : Int32) (n : Nat) (x2_L2 : Int32) (z_ship_L2 : Int32) (z_day_L2 : Int32) (z_rows_L2 : Int32) (z_columns_L2 : Int32) (z_seas_L2 : Nat → Int32) (x : (Int32 × Int32 × Int32 × Int32 × (Nat → Int32)) ⊕ (Int32 × Int32 × Int32 × Int32 × Int32 × (Nat → Int32))) (H : Heap) (locs : List Loc) (ls : Array Slot), fX3_firstSpin_L2 g x1_L2 z_hands z_aboard z_cells z_kinds z_figures z_longings n x2_L2 z_ship_L2 z_day_L2 z_rows_L2 z_columns_L2 z_seas_L2 = some x → WD D A [(a_z, .inr (3, [.ref a_z_cells, .int z_places, .ref a_z_kinds, .ref a_z_figures, .ref a_z_longings, .ref a_z_seas, .int z_hands, .int z_aboard, .int z_ship_L2, .int z_day_L2, .int z_rows_L2, .int z_columns_L2])), (a_z_cells, .inl (cI, 6, .inl z_cells)), (a_z_kinds, .inl (cI, 7, .inl z_kinds)), (a_z_figures, .inl (cI, 7, .inl z_figures)), (a_z_longings, .inl (cI, 7, .inl z_longings)), (a_z_seas, .inl (cI, 7, .inl z_seas_L2))] H → va_S A s.heap H locs → lv_has ls 3 [(0, .ref a_z), (1, .int x1_L2), (2, .int x2_L2)] → (∀ (tt0 : Int32) (tt1 : Int32) (tt2 : Int32) (tt3 : Int32) (tt4 : Nat → Int32), .inl (tt0, tt1, tt2, tt3, tt4) = x → (∀ (H : Heap) (locs : List Loc) (ls : Array Slot), WD D A [(a_z, .inr (3, [.ref a_z_cells, .int z_places, .ref a_z_kinds, .ref a_z_figures, .ref a_z_longings, .ref a_z_seas, .int z_hands, .int z_aboard, .int tt0, .int tt1, .int tt2, .int tt3])), (a_z_cells, .inl (cI, 6, .inl z_cells)), (a_z_kinds, .inl (cI, 7, .inl z_kinds)), (a_z_figures, .inl (cI, 7, .inl z_figures)), (a_z_longings, .inl (cI, 7, .inl z_longings)), (a_z_seas, .inl (cI, 7, .inl tt4))] H → va_S A s.heap H locs → lv_has ls 3 [] → W p l e rmX3_firstSpin s m args below meth c H locs 0 0 Q (F0 m 29 ls []))) → (∀ q : Int32 × Int32 × Int32 × Int32 × Int32 × (Nat → Int32), .inr q = x → some q = some (r, n_z_ship, n_z_day, n_z_rows, n_z_columns, n_z_seas)) → W p l e rmX3_firstSpin s m args below meth c H locs 0 0 Q (F0 m 2 ls []) := by
    intro x1_L2 n
    induction n with
    | zero =>
      intro x2_L2 z_ship_L2 z_day_L2 z_rows_L2 z_columns_L2 z_seas_L2 x H locs ls h
      exact (no_some h).elim
    | succ n ih =>
      intro x2_L2 z_ship_L2 z_day_L2 z_rows_L2 z_columns_L2 z_seas_L2 x H locs ls h hP hS hl kE kR
      have h : fX3_firstSpin_L2_b g x1_L2 z_hands z_aboard z_cells z_kinds z_figures z_longings (fX3_firstSpin_L2 g x1_L2 z_hands z_aboard z_cells z_kinds z_figures z_longings n) x2_L2 z_ship_L2 z_day_L2 z_rows_L2 z_columns_L2 z_seas_L2 = some x := h
      unfold fX3_firstSpin_L2_b at h
      refine lv_iload_n hx hb dX3_firstSpin_2 rfl (lv_at hl 2 rfl) ?_
      refine lv_iload_n hx hb dX3_firstSpin_3 rfl (lv_at hl 1 rfl) ?_
      refine lv_icmp_gt (tgt := 29) hx hb dX3_firstSpin_4 (by decide) (fun hc6 => ?_) (fun hc6 => ?_)
      · have h := it_p hc6 h
        cases h
        exact kE _ _ _ _ _ rfl H locs ls hP hS (lv_sub hl [] rfl)
      · have h := it_n hc6 h
        refine lv_aload_n hx hb dX3_firstSpin_7 rfl (lv_at hl 0 rfl) ?_
        obtain ⟨r7, z_rows_8, z_columns_9, hk10, h⟩ := bd3_e h
        refine cV_i (rest := []) F (kX3_points l D cI cJ H.size g a_z a_z_cells a_z_kinds a_z_figures a_z_longings a_z_seas z_places z_hands z_aboard z_ship_L2 z_day_L2 z_rows_L2 z_columns_L2 z_cells z_kinds z_figures z_longings z_seas_L2 r7 z_rows_8 z_columns_9 hk10) (cwV 0 hts gX3_firstSpin_X3_points rfl rfl rfl eVX3_points ⟨Nat.le_of_ble_eq_true rfl, Nat.le_of_ble_eq_true rfl⟩) [0, 1, 2, 3, 4, 5] hP hS (by decide) rfl rfl 0 rfl rfl rfl hl.1 (Nat.le_of_ble_eq_true rfl) ⟨Nat.le_refl _, Nat.le_refl _⟩ rfl dX3_firstSpin_8 (fun H locs hP hS => ?_)
        have hP : WD D A [(a_z, .inr (3, [.ref a_z_cells, .int z_places, .ref a_z_kinds, .ref a_z_figures, .ref a_z_longings, .ref a_z_seas, .int z_hands, .int z_aboard, .int z_ship_L2, .int z_day_L2, .int z_rows_8, .int z_columns_9])), (a_z_cells, .inl (cI, 6, .inl z_cells)), (a_z_kinds, .inl (cI, 7, .inl z_kinds)), (a_z_figures, .inl (cI, 7, .inl z_figures)), (a_z_longings, .inl (cI, 7, .inl z_longings)), (a_z_seas, .inl (cI, 7, .inl z_seas_L2))] H := hP
        refine lv_bipush (v := (-9)) hx hb dX3_firstSpin_11 (by decide) ?_
        refine lv_icmp_ne (tgt := 18) hx hb dX3_firstSpin_13 (by decide) (fun hc11 => ?_) (fun hc11 => ?_)
        · have h := it_n hc11 h
          refine lv_aload_n hx hb dX3_firstSpin_18 rfl (lv_at hl 0 rfl) ?_
          obtain ⟨r12, z_ship_13, z_day_14, z_rows_15, z_columns_16, z_seas_17, hk18, h⟩ := bd6_e h
          refine cV_i (rest := []) F (kX3_goDay l D cI cJ H.size g a_z a_z_cells a_z_kinds a_z_figures a_z_longings a_z_seas z_places z_hands z_aboard z_ship_L2 z_day_L2 z_rows_8 z_columns_9 z_cells z_kinds z_figures z_longings z_seas_L2 r12 z_ship_13 z_day_14 z_rows_15 z_columns_16 z_seas_17 hk18) (cwV 0 hts gX3_firstSpin_X3_goDay rfl rfl rfl eVX3_goDay ⟨Nat.le_of_ble_eq_true rfl, Nat.le_of_ble_eq_true rfl⟩) [0, 1, 2, 3, 4, 5] hP hS (by decide) rfl rfl 0 rfl rfl rfl hl.1 (Nat.le_of_ble_eq_true rfl) ⟨Nat.le_refl _, Nat.le_refl _⟩ rfl dX3_firstSpin_19 (fun H locs hP hS => ?_)
          have hP : WD D A [(a_z, .inr (3, [.ref a_z_cells, .int z_places, .ref a_z_kinds, .ref a_z_figures, .ref a_z_longings, .ref a_z_seas, .int z_hands, .int z_aboard, .int z_ship_13, .int z_day_14, .int z_rows_15, .int z_columns_16])), (a_z_cells, .inl (cI, 6, .inl z_cells)), (a_z_kinds, .inl (cI, 7, .inl z_kinds)), (a_z_figures, .inl (cI, 7, .inl z_figures)), (a_z_longings, .inl (cI, 7, .inl z_longings)), (a_z_seas, .inl (cI, 7, .inl z_seas_17))] H := hP
          refine lv_pop hx hb dX3_firstSpin_22 rfl ?_
          refine lv_iinc (v := x2_L2 + 1) (lv' := [(2, .int (x2_L2 + 1)), (0, .ref a_z), (1, .int x1_L2)]) hx hb dX3_firstSpin_23 hl (k := 2) rfl rfl (by decide) rfl (fun ls hl => ?_)
          refine lv_goto (tgt := 2) hx hb dX3_firstSpin_26 (by decide) ?_
          exact ih (x2_L2 + 1) z_ship_13 z_day_14 z_rows_15 z_columns_16 z_seas_17 x H locs ls h hP hS (lv_sub hl [1, 2, 0] rfl) kE kR
        · have h := it_p hc11 h
          refine lv_iload_n hx hb dX3_firstSpin_16 rfl (lv_at hl 2 rfl) ?_
          have h := kR _ (Option.some.inj h)
          exact hret 17 H locs ls x2_L2 z_ship_L2 z_day_L2 z_rows_8 z_columns_9 z_seas_L2 h rfl dX3_firstSpin_17 hP hS
  have hl : lv_has ls 3 [(0, .ref a_z), (1, .int p0)] := hl
  have h := hf
  unfold fX3_firstSpin at h
  refine lv_iconst (v := 0) hx hb dX3_firstSpin_0 (by decide) ?_
  refine lv_istore_n (lv' := [(2, .int 0), (0, .ref a_z), (1, .int p0)]) hx hb dX3_firstSpin_1 rfl hl (by decide) rfl (fun ls hl => ?_)
  obtain ⟨x25, hk24, x25a, x25b⟩ := bs5_e h
  refine L2 p0 g 0 z_ship z_day z_rows z_columns z_seas x25 H locs ls hk24 hP hS (lv_sub hl [1, 2, 0] rfl) (fun t19 t20 t21 t22 t23 he26 H locs ls hP hS hl => ?_) (fun q he26 => (x25b q he26.symm))
  have h := x25a t19 t20 t21 t22 t23 he26.symm
  refine lv_bipush (v := (-9)) hx hb dX3_firstSpin_29 (by decide) ?_
  exact hret 31 H locs ls (-9) t19 t20 t21 t22 t23 h rfl dX3_firstSpin_31 hP hS
theorem eSX3_firstRest : yX3_firstRest.cls ≠ "java/lang/invoke/MethodHandle" ∧ yX3_firstRest.cls ≠ "java/lang/invoke/VarHandle" ∧ (parseMethodDescriptor yX3_firstRest.desc).map (fun d => d.parameters.length) = some 1 := by decide +kernel
theorem eVX3_firstRest : yX3_firstRest.cls = RX3 ∧ yX3_firstRest.cls ≠ "java/lang/invoke/MethodHandle" ∧ yX3_firstRest.cls ≠ "java/lang/invoke/VarHandle" ∧ (parseMethodDescriptor yX3_firstRest.desc).map (fun d => d.parameters.length) = some 1 := ⟨rfl, eSX3_firstRest⟩
abbrev rmX3_firstRest : Room := { frames := 3, cells := 0, slots := 0, locals := 69 }
def fX3_firstRest_L2_b (g : Nat) (x1_L2 : Int32) (z_hands : Int32) (z_aboard : Int32) (z_cells : Nat → Int32) (z_kinds : Nat → Int32) (z_figures : Nat → Int32) (z_longings : Nat → Int32) (self : Int32 → Int32 → Int32 → Int32 → Int32 → (Nat → Int32) → Option ((Int32 × Int32 × Int32 × Int32 × (Nat → Int32)) ⊕ (Int32 × Int32 × Int32 × Int32 × Int32 × (Nat → Int32)))) (x2_L2 : Int32) (z_ship_L2 : Int32) (z_day_L2 : Int32) (z_rows_L2 : Int32) (z_columns_L2 : Int32) (z_seas_L2 : Nat → Int32) : Option ((Int32 × Int32 × Int32 × Int32 × (Nat → Int32)) ⊕ (Int32 × Int32 × Int32 × Int32 × Int32 × (Nat → Int32))) := if x1_L2 < x2_L2 then (some (.inl (z_ship_L2, z_day_L2, z_rows_L2, z_columns_L2, z_seas_L2))) else (bd6 (fX3_goDay g z_hands z_aboard z_ship_L2 z_day_L2 z_cells z_kinds z_figures z_longings z_seas_L2) fun r7 z_ship_8 z_day_9 z_rows_10 z_columns_11 z_seas_12 => (if r7 = 0 then (some (.inr (x2_L2, z_ship_8, z_day_9, z_rows_10, z_columns_11, z_seas_12))) else (self (x2_L2 + 1) z_ship_8 z_day_9 z_rows_10 z_columns_11 z_seas_12)))
def fX3_firstRest_L2 (g : Nat) (x1_L2 : Int32) (z_hands : Int32) (z_aboard : Int32) (z_cells : Nat → Int32) (z_kinds : Nat → Int32) (z_figures : Nat → Int32) (z_longings : Nat → Int32) (n : Nat) : Int32 → Int32 → Int32 → Int32 → Int32 → (Nat → Int32) → Option ((Int32 × Int32 × Int32 × Int32 × (Nat → Int32)) ⊕ (Int32 × Int32 × Int32 × Int32 × Int32 × (Nat → Int32))) := lp (fX3_firstRest_L2_b g x1_L2 z_hands z_aboard z_cells z_kinds z_figures z_longings) (fun _ _ _ _ _ _ => none) n
def fX3_firstRest (g : Nat) (p0 : Int32) (z_hands : Int32) (z_aboard : Int32) (z_ship : Int32) (z_day : Int32) (z_rows : Int32) (z_columns : Int32) (z_cells : Nat → Int32) (z_kinds : Nat → Int32) (z_figures : Nat → Int32) (z_longings : Nat → Int32) (z_seas : Nat → Int32) : Option (Int32 × Int32 × Int32 × Int32 × Int32 × (Nat → Int32)) := bs5 (fX3_firstRest_L2 g p0 z_hands z_aboard z_cells z_kinds z_figures z_longings g 0 z_ship z_day z_rows z_columns z_seas) (fun q => some q) fun t15 t16 t17 t18 t19 => (some ((-9), t15, t16, t17, t18, t19))
set_option maxHeartbeats 4000000 in
set_option maxRecDepth 100000 in
theorem kX3_firstRest (l : Launch) (D : va_G) (cI cJ : ClassId) (sz g : Nat) (a_z a_z_cells a_z_kinds a_z_figures a_z_longings a_z_seas : Nat) (z_places : Int32) (z_hands : Int32) (z_aboard : Int32) (z_ship : Int32) (z_day : Int32) (z_rows : Int32) (z_columns : Int32) (z_cells : Nat → Int32) (z_kinds : Nat → Int32) (z_figures : Nat → Int32) (z_longings : Nat → Int32) (z_seas : Nat → Int32) (p0 : Int32) (r : Int32) (n_z_ship : Int32) (n_z_day : Int32) (n_z_rows : Int32) (n_z_columns : Int32) (n_z_seas : Nat → Int32) (hf : fX3_firstRest g p0 z_hands z_aboard z_ship z_day z_rows z_columns z_cells z_kinds z_figures z_longings z_seas = some (r, n_z_ship, n_z_day, n_z_rows, n_z_columns, n_z_seas)) : Met l yX3_firstRest wsX3_firstRest rmX3_firstRest (va_Pc [.ref a_z, .int p0] (sPc D (tyL cI cJ) [(a_z, .inr (3, [.ref a_z_cells, .int z_places, .ref a_z_kinds, .ref a_z_figures, .ref a_z_longings, .ref a_z_seas, .int z_hands, .int z_aboard, .int z_ship, .int z_day, .int z_rows, .int z_columns])), (a_z_cells, .inl (cI, 6, .inl z_cells)), (a_z_kinds, .inl (cI, 7, .inl z_kinds)), (a_z_figures, .inl (cI, 7, .inl z_figures)), (a_z_longings, .inl (cI, 7, .inl z_longings)), (a_z_seas, .inl (cI, 7, .inl z_seas))] sz)) (qI D (tyL cI cJ) [(a_z, .inr (3, [.ref a_z_cells, .int z_places, .ref a_z_kinds, .ref a_z_figures, .ref a_z_longings, .ref a_z_seas, .int z_hands, .int z_aboard, .int z_ship, .int z_day, .int z_rows, .int z_columns])), (a_z_cells, .inl (cI, 6, .inl z_cells)), (a_z_kinds, .inl (cI, 7, .inl z_kinds)), (a_z_figures, .inl (cI, 7, .inl z_figures)), (a_z_longings, .inl (cI, 7, .inl z_longings)), (a_z_seas, .inl (cI, 7, .inl z_seas))] sz [(a_z, .inr (3, [.ref a_z_cells, .int z_places, .ref a_z_kinds, .ref a_z_figures, .ref a_z_longings, .ref a_z_seas, .int z_hands, .int z_aboard, .int n_z_ship, .int n_z_day, .int n_z_rows, .int n_z_columns])), (a_z_cells, .inl (cI, 6, .inl z_cells)), (a_z_kinds, .inl (cI, 7, .inl z_kinds)), (a_z_figures, .inl (cI, 7, .inl z_figures)), (a_z_longings, .inl (cI, 7, .inl z_longings)), (a_z_seas, .inl (cI, 7, .inl n_z_seas))] r) 0 0 (va_A [(a_z, .inr (3, [.ref a_z_cells, .int z_places, .ref a_z_kinds, .ref a_z_figures, .ref a_z_longings, .ref a_z_seas, .int z_hands, .int z_aboard, .int z_ship, .int z_day, .int z_rows, .int z_columns])), (a_z_cells, .inl (cI, 6, .inl z_cells)), (a_z_kinds, .inl (cI, 7, .inl z_kinds)), (a_z_figures, .inl (cI, 7, .inl z_figures)), (a_z_longings, .inl (cI, 7, .inl z_longings)), (a_z_seas, .inl (cI, 7, .inl z_seas))] sz) := by
  refine st_i (cc := cX3_firstRest) (maxL := 3) (by decide) rfl (Nat.le_of_ble_eq_true rfl) ?_
  intro p e s m args below meth c A Q F hret0 H locs hP hS ls hl
  have F : Cx p s m args c cX3_firstRest 3 wsX3_firstRest RX3 D (tyL cI cJ) A := F
  have hx := F.1.1
  have hb := F.1.2.1
  have hown := F.1.2.2.2.1
  have hts := F.1.2.2.2.2
  have hret : ∀ (pc : Nat) (H : Heap) (locs : List Loc) (ls : Array Slot) (r' : Int32) (m_z_ship : Int32) (m_z_day : Int32) (m_z_rows : Int32) (m_z_columns : Int32) (m_z_seas : Nat → Int32), some (r', m_z_ship, m_z_day, m_z_rows, m_z_columns, m_z_seas) = some (r, n_z_ship, n_z_day, n_z_rows, n_z_columns, n_z_seas) → narrow .int (.int r') = .int r' → decode cX3_firstRest pc = .ok (.ireturn, 1) → WD D A [(a_z, .inr (3, [.ref a_z_cells, .int z_places, .ref a_z_kinds, .ref a_z_figures, .ref a_z_longings, .ref a_z_seas, .int z_hands, .int z_aboard, .int m_z_ship, .int m_z_day, .int m_z_rows, .int m_z_columns])), (a_z_cells, .inl (cI, 6, .inl z_cells)), (a_z_kinds, .inl (cI, 7, .inl z_kinds)), (a_z_figures, .inl (cI, 7, .inl z_figures)), (a_z_longings, .inl (cI, 7, .inl z_longings)), (a_z_seas, .inl (cI, 7, .inl m_z_seas))] H → va_S A s.heap H locs → W p l e rmX3_firstRest s m args below meth c H locs 0 0 Q (F0 m pc ls [.int r']) := by
    intro pc H locs ls r' m_z_ship m_z_day m_z_rows m_z_columns m_z_seas h hn hd hP hS
    cases h
    exact hret0 pc H locs ls hn hd hP hS
  have L2 : ∀ (x1_L2 : Int32) (n : Nat) (x2_L2 : Int32) (z_ship_L2 : Int32) (z_day_L2 : Int32) (z_rows_L2 : Int32) (z_columns_L2 : Int32) (z_seas_L2 : Nat → Int32) (x : (Int32 × Int32 × Int32 × Int32 × (Nat → Int32)) ⊕ (Int32 × Int32 × Int32 × Int32 × Int32 × (Nat → Int32))) (H : Heap) (locs : List Loc) (ls : Array Slot), fX3_firstRest_L2 g x1_L2 z_hands z_aboard z_cells z_kinds z_figures z_longings n x2_L2 z_ship_L2 z_day_L2 z_rows_L2 z_columns_L2 z_seas_L2 = some x → WD D A [(a_z, .inr (3, [.ref a_z_cells, .int z_places, .ref a_z_kinds, .ref a_z_figures, .ref a_z_longings, .ref a_z_seas, .int z_hands, .int z_aboard, .int z_ship_L2, .int z_day_L2, .int z_rows_L2, .int z_columns_L2])), (a_z_cells, .inl (cI, 6, .inl z_cells)), (a_z_kinds, .inl (cI, 7, .inl z_kinds)), (a_z_figures, .inl (cI, 7, .inl z_figures)), (a_z_longings, .inl (cI, 7, .inl z_longings)), (a_z_seas, .inl (cI, 7, .inl z_seas_L2))] H → va_S A s.heap H locs → lv_has ls 3 [(0, .ref a_z), (1, .int x1_L2), (2, .int x2_L2)] → (∀ (tt0 : Int32) (tt1 : Int32) (tt2 : Int32) (tt3 : Int32) (tt4 : Nat → Int32), .inl (tt0, tt1, tt2, tt3, tt4) = x → (∀ (H : Heap) (locs : List Loc) (ls : Array Slot), WD D A [(a_z, .inr (3, [.ref a_z_cells, .int z_places, .ref a_z_kinds, .ref a_z_figures, .ref a_z_longings, .ref a_z_seas, .int z_hands, .int z_aboard, .int tt0, .int tt1, .int tt2, .int tt3])), (a_z_cells, .inl (cI, 6, .inl z_cells)), (a_z_kinds, .inl (cI, 7, .inl z_kinds)), (a_z_figures, .inl (cI, 7, .inl z_figures)), (a_z_longings, .inl (cI, 7, .inl z_longings)), (a_z_seas, .inl (cI, 7, .inl tt4))] H → va_S A s.heap H locs → lv_has ls 3 [] → W p l e rmX3_firstRest s m args below meth c H locs 0 0 Q (F0 m 22 ls []))) → (∀ q : Int32 × Int32 × Int32 × Int32 × Int32 × (Nat → Int32), .inr q = x → some q = some (r, n_z_ship, n_z_day, n_z_rows, n_z_columns, n_z_seas)) → W p l e rmX3_firstRest s m args below meth c H locs 0 0 Q (F0 m 2 ls []) := by
    intro x1_L2 n
    induction n with
    | zero =>
      intro x2_L2 z_ship_L2 z_day_L2 z_rows_L2 z_columns_L2 z_seas_L2 x H locs ls h
      exact (no_some h).elim
    | succ n ih =>
      intro x2_L2 z_ship_L2 z_day_L2 z_rows_L2 z_columns_L2 z_seas_L2 x H locs ls h hP hS hl kE kR
      have h : fX3_firstRest_L2_b g x1_L2 z_hands z_aboard z_cells z_kinds z_figures z_longings (fX3_firstRest_L2 g x1_L2 z_hands z_aboard z_cells z_kinds z_figures z_longings n) x2_L2 z_ship_L2 z_day_L2 z_rows_L2 z_columns_L2 z_seas_L2 = some x := h
      unfold fX3_firstRest_L2_b at h
      refine lv_iload_n hx hb dX3_firstRest_2 rfl (lv_at hl 2 rfl) ?_
      refine lv_iload_n hx hb dX3_firstRest_3 rfl (lv_at hl 1 rfl) ?_
      refine lv_icmp_gt (tgt := 22) hx hb dX3_firstRest_4 (by decide) (fun hc6 => ?_) (fun hc6 => ?_)
      · have h := it_p hc6 h
        cases h
        exact kE _ _ _ _ _ rfl H locs ls hP hS (lv_sub hl [] rfl)
      · have h := it_n hc6 h
        refine lv_aload_n hx hb dX3_firstRest_7 rfl (lv_at hl 0 rfl) ?_
        obtain ⟨r7, z_ship_8, z_day_9, z_rows_10, z_columns_11, z_seas_12, hk13, h⟩ := bd6_e h
        refine cV_i (rest := []) F (kX3_goDay l D cI cJ H.size g a_z a_z_cells a_z_kinds a_z_figures a_z_longings a_z_seas z_places z_hands z_aboard z_ship_L2 z_day_L2 z_rows_L2 z_columns_L2 z_cells z_kinds z_figures z_longings z_seas_L2 r7 z_ship_8 z_day_9 z_rows_10 z_columns_11 z_seas_12 hk13) (cwV 0 hts gX3_firstRest_X3_goDay rfl rfl rfl eVX3_goDay ⟨Nat.le_of_ble_eq_true rfl, Nat.le_of_ble_eq_true rfl⟩) [0, 1, 2, 3, 4, 5] hP hS (by decide) rfl rfl 0 rfl rfl rfl hl.1 (Nat.le_of_ble_eq_true rfl) ⟨Nat.le_refl _, Nat.le_refl _⟩ rfl dX3_firstRest_8 (fun H locs hP hS => ?_)
        have hP : WD D A [(a_z, .inr (3, [.ref a_z_cells, .int z_places, .ref a_z_kinds, .ref a_z_figures, .ref a_z_longings, .ref a_z_seas, .int z_hands, .int z_aboard, .int z_ship_8, .int z_day_9, .int z_rows_10, .int z_columns_11])), (a_z_cells, .inl (cI, 6, .inl z_cells)), (a_z_kinds, .inl (cI, 7, .inl z_kinds)), (a_z_figures, .inl (cI, 7, .inl z_figures)), (a_z_longings, .inl (cI, 7, .inl z_longings)), (a_z_seas, .inl (cI, 7, .inl z_seas_12))] H := hP
        refine lv_if_ne (tgt := 16) hx hb dX3_firstRest_11 (by decide) (fun hc14 => ?_) (fun hc14 => ?_)
        · have h := it_n hc14 h
          refine lv_iinc (v := x2_L2 + 1) (lv' := [(2, .int (x2_L2 + 1)), (0, .ref a_z), (1, .int x1_L2)]) hx hb dX3_firstRest_16 hl (k := 2) rfl rfl (by decide) rfl (fun ls hl => ?_)
          refine lv_goto (tgt := 2) hx hb dX3_firstRest_19 (by decide) ?_
          exact ih (x2_L2 + 1) z_ship_8 z_day_9 z_rows_10 z_columns_11 z_seas_12 x H locs ls h hP hS (lv_sub hl [1, 2, 0] rfl) kE kR
        · have h := it_p hc14 h
          refine lv_iload_n hx hb dX3_firstRest_14 rfl (lv_at hl 2 rfl) ?_
          have h := kR _ (Option.some.inj h)
          exact hret 15 H locs ls x2_L2 z_ship_8 z_day_9 z_rows_10 z_columns_11 z_seas_12 h rfl dX3_firstRest_15 hP hS
  have hl : lv_has ls 3 [(0, .ref a_z), (1, .int p0)] := hl
  have h := hf
  unfold fX3_firstRest at h
  refine lv_iconst (v := 0) hx hb dX3_firstRest_0 (by decide) ?_
  refine lv_istore_n (lv' := [(2, .int 0), (0, .ref a_z), (1, .int p0)]) hx hb dX3_firstRest_1 rfl hl (by decide) rfl (fun ls hl => ?_)
  obtain ⟨x21, hk20, x21a, x21b⟩ := bs5_e h
  refine L2 p0 g 0 z_ship z_day z_rows z_columns z_seas x21 H locs ls hk20 hP hS (lv_sub hl [1, 2, 0] rfl) (fun t15 t16 t17 t18 t19 he22 H locs ls hP hS hl => ?_) (fun q he22 => (x21b q he22.symm))
  have h := x21a t15 t16 t17 t18 t19 he22.symm
  refine lv_bipush (v := (-9)) hx hb dX3_firstRest_22 (by decide) ?_
  exact hret 24 H locs ls (-9) t15 t16 t17 t18 t19 h rfl dX3_firstRest_24 hP hS
theorem eSX4_below : yX4_below.cls ≠ "java/lang/invoke/MethodHandle" ∧ yX4_below.cls ≠ "java/lang/invoke/VarHandle" ∧ (parseMethodDescriptor yX4_below.desc).map (fun d => d.parameters.length) = some 2 := by decide +kernel
theorem eVX4_below : yX4_below.cls = RX4 ∧ yX4_below.cls ≠ "java/lang/invoke/MethodHandle" ∧ yX4_below.cls ≠ "java/lang/invoke/VarHandle" ∧ (parseMethodDescriptor yX4_below.desc).map (fun d => d.parameters.length) = some 2 := ⟨rfl, eSX4_below⟩
abbrev rmX4_below : Room := { frames := 0, cells := 0, slots := 0, locals := 0 }
def fX4_below (g : Nat) (p0 : Int32) (p1 : Int32) : Option (Int32) := if p1 ≤ p0 then (some 0) else (some (-4))
set_option maxHeartbeats 4000000 in
set_option maxRecDepth 100000 in
theorem kX4_below (l : Launch) (D : va_G) (cI cJ : ClassId) (sz g : Nat) (p0 : Int32) (p1 : Int32) (r : Int32) (hf : fX4_below g p0 p1 = some r) : Met l yX4_below wsX4_below rmX4_below (va_Pc [.int p0, .int p1] (sPc D (tyL cI cJ) [] sz)) (qI D (tyL cI cJ) [] sz [] r) 0 0 (va_A [] sz) := by
  refine st_i (cc := cX4_below) (maxL := 2) (by decide) rfl (Nat.le_of_ble_eq_true rfl) ?_
  intro p e s m args below meth c A Q F hret0 H locs hP hS ls hl
  have F : Cx p s m args c cX4_below 2 wsX4_below RX4 D (tyL cI cJ) A := F
  have hx := F.1.1
  have hb := F.1.2.1
  have hown := F.1.2.2.2.1
  have hts := F.1.2.2.2.2
  have hret : ∀ (pc : Nat) (H : Heap) (locs : List Loc) (ls : Array Slot) (r' : Int32), some r' = some r → narrow .int (.int r') = .int r' → decode cX4_below pc = .ok (.ireturn, 1) → WD D A [] H → va_S A s.heap H locs → W p l e rmX4_below s m args below meth c H locs 0 0 Q (F0 m pc ls [.int r']) := by
    intro pc H locs ls r' h hn hd hP hS
    cases h
    exact hret0 pc H locs ls hn hd hP hS
  have hl : lv_has ls 2 [(0, .int p0), (1, .int p1)] := hl
  have h := hf
  unfold fX4_below at h
  refine lv_iload_n hx hb dX4_below_0 rfl (lv_at hl 0 rfl) ?_
  refine lv_iload_n hx hb dX4_below_1 rfl (lv_at hl 1 rfl) ?_
  refine lv_icmp_ge (tgt := 10) hx hb dX4_below_2 (by decide) (fun hc2 => ?_) (fun hc2 => ?_)
  · have h := it_p hc2 h
    refine lv_iconst (v := 0) hx hb dX4_below_10 (by decide) ?_
    exact hret 11 H locs ls 0 h rfl dX4_below_11 hP hS
  · have h := it_n hc2 h
    refine lv_bipush (v := (-4)) hx hb dX4_below_5 (by decide) ?_
    refine lv_goto (tgt := 11) hx hb dX4_below_7 (by decide) ?_
    exact hret 11 H locs ls (-4) h rfl dX4_below_11 hP hS
theorem eSX4_above : yX4_above.cls ≠ "java/lang/invoke/MethodHandle" ∧ yX4_above.cls ≠ "java/lang/invoke/VarHandle" ∧ (parseMethodDescriptor yX4_above.desc).map (fun d => d.parameters.length) = some 2 := by decide +kernel
theorem eVX4_above : yX4_above.cls = RX4 ∧ yX4_above.cls ≠ "java/lang/invoke/MethodHandle" ∧ yX4_above.cls ≠ "java/lang/invoke/VarHandle" ∧ (parseMethodDescriptor yX4_above.desc).map (fun d => d.parameters.length) = some 2 := ⟨rfl, eSX4_above⟩
abbrev rmX4_above : Room := { frames := 0, cells := 0, slots := 0, locals := 0 }
def fX4_above (g : Nat) (p0 : Int32) (p1 : Int32) : Option (Int32) := if p0 ≤ p1 then (some 0) else (some (-6))
set_option maxHeartbeats 4000000 in
set_option maxRecDepth 100000 in
theorem kX4_above (l : Launch) (D : va_G) (cI cJ : ClassId) (sz g : Nat) (p0 : Int32) (p1 : Int32) (r : Int32) (hf : fX4_above g p0 p1 = some r) : Met l yX4_above wsX4_above rmX4_above (va_Pc [.int p0, .int p1] (sPc D (tyL cI cJ) [] sz)) (qI D (tyL cI cJ) [] sz [] r) 0 0 (va_A [] sz) := by
  refine st_i (cc := cX4_above) (maxL := 2) (by decide) rfl (Nat.le_of_ble_eq_true rfl) ?_
  intro p e s m args below meth c A Q F hret0 H locs hP hS ls hl
  have F : Cx p s m args c cX4_above 2 wsX4_above RX4 D (tyL cI cJ) A := F
  have hx := F.1.1
  have hb := F.1.2.1
  have hown := F.1.2.2.2.1
  have hts := F.1.2.2.2.2
  have hret : ∀ (pc : Nat) (H : Heap) (locs : List Loc) (ls : Array Slot) (r' : Int32), some r' = some r → narrow .int (.int r') = .int r' → decode cX4_above pc = .ok (.ireturn, 1) → WD D A [] H → va_S A s.heap H locs → W p l e rmX4_above s m args below meth c H locs 0 0 Q (F0 m pc ls [.int r']) := by
    intro pc H locs ls r' h hn hd hP hS
    cases h
    exact hret0 pc H locs ls hn hd hP hS
  have hl : lv_has ls 2 [(0, .int p0), (1, .int p1)] := hl
  have h := hf
  unfold fX4_above at h
  refine lv_iload_n hx hb dX4_above_0 rfl (lv_at hl 0 rfl) ?_
  refine lv_iload_n hx hb dX4_above_1 rfl (lv_at hl 1 rfl) ?_
  refine lv_icmp_le (tgt := 10) hx hb dX4_above_2 (by decide) (fun hc2 => ?_) (fun hc2 => ?_)
  · have h := it_p hc2 h
    refine lv_iconst (v := 0) hx hb dX4_above_10 (by decide) ?_
    exact hret 11 H locs ls 0 h rfl dX4_above_11 hP hS
  · have h := it_n hc2 h
    refine lv_bipush (v := (-6)) hx hb dX4_above_5 (by decide) ?_
    refine lv_goto (tgt := 11) hx hb dX4_above_7 (by decide) ?_
    exact hret 11 H locs ls (-6) h rfl dX4_above_11 hP hS
theorem eSX4_firstOf : yX4_firstOf.cls ≠ "java/lang/invoke/MethodHandle" ∧ yX4_firstOf.cls ≠ "java/lang/invoke/VarHandle" ∧ (parseMethodDescriptor yX4_firstOf.desc).map (fun d => d.parameters.length) = some 2 := by decide +kernel
theorem eVX4_firstOf : yX4_firstOf.cls = RX4 ∧ yX4_firstOf.cls ≠ "java/lang/invoke/MethodHandle" ∧ yX4_firstOf.cls ≠ "java/lang/invoke/VarHandle" ∧ (parseMethodDescriptor yX4_firstOf.desc).map (fun d => d.parameters.length) = some 2 := ⟨rfl, eSX4_firstOf⟩
abbrev rmX4_firstOf : Room := { frames := 0, cells := 0, slots := 0, locals := 0 }
def fX4_firstOf (g : Nat) (p0 : Int32) (p1 : Int32) : Option (Int32) := if p0 = 0 then (some p1) else (some p0)
set_option maxHeartbeats 4000000 in
set_option maxRecDepth 100000 in
theorem kX4_firstOf (l : Launch) (D : va_G) (cI cJ : ClassId) (sz g : Nat) (p0 : Int32) (p1 : Int32) (r : Int32) (hf : fX4_firstOf g p0 p1 = some r) : Met l yX4_firstOf wsX4_firstOf rmX4_firstOf (va_Pc [.int p0, .int p1] (sPc D (tyL cI cJ) [] sz)) (qI D (tyL cI cJ) [] sz [] r) 0 0 (va_A [] sz) := by
  refine st_i (cc := cX4_firstOf) (maxL := 2) (by decide) rfl (Nat.le_of_ble_eq_true rfl) ?_
  intro p e s m args below meth c A Q F hret0 H locs hP hS ls hl
  have F : Cx p s m args c cX4_firstOf 2 wsX4_firstOf RX4 D (tyL cI cJ) A := F
  have hx := F.1.1
  have hb := F.1.2.1
  have hown := F.1.2.2.2.1
  have hts := F.1.2.2.2.2
  have hret : ∀ (pc : Nat) (H : Heap) (locs : List Loc) (ls : Array Slot) (r' : Int32), some r' = some r → narrow .int (.int r') = .int r' → decode cX4_firstOf pc = .ok (.ireturn, 1) → WD D A [] H → va_S A s.heap H locs → W p l e rmX4_firstOf s m args below meth c H locs 0 0 Q (F0 m pc ls [.int r']) := by
    intro pc H locs ls r' h hn hd hP hS
    cases h
    exact hret0 pc H locs ls hn hd hP hS
  have hl : lv_has ls 2 [(0, .int p0), (1, .int p1)] := hl
  have h := hf
  unfold fX4_firstOf at h
  refine lv_iload_n hx hb dX4_firstOf_0 rfl (lv_at hl 0 rfl) ?_
  refine lv_if_eq (tgt := 8) hx hb dX4_firstOf_1 (by decide) (fun hc2 => ?_) (fun hc2 => ?_)
  · have h := it_p hc2 h
    refine lv_iload_n hx hb dX4_firstOf_8 rfl (lv_at hl 1 rfl) ?_
    exact hret 9 H locs ls p1 h rfl dX4_firstOf_9 hP hS
  · have h := it_n hc2 h
    refine lv_iload_n hx hb dX4_firstOf_4 rfl (lv_at hl 0 rfl) ?_
    refine lv_goto (tgt := 9) hx hb dX4_firstOf_5 (by decide) ?_
    exact hret 9 H locs ls p0 h rfl dX4_firstOf_9 hP hS
theorem eSX4_outside : yX4_outside.cls ≠ "java/lang/invoke/MethodHandle" ∧ yX4_outside.cls ≠ "java/lang/invoke/VarHandle" ∧ (parseMethodDescriptor yX4_outside.desc).map (fun d => d.parameters.length) = some 3 := by decide +kernel
theorem eVX4_outside : yX4_outside.cls = RX4 ∧ yX4_outside.cls ≠ "java/lang/invoke/MethodHandle" ∧ yX4_outside.cls ≠ "java/lang/invoke/VarHandle" ∧ (parseMethodDescriptor yX4_outside.desc).map (fun d => d.parameters.length) = some 3 := ⟨rfl, eSX4_outside⟩
abbrev rmX4_outside : Room := { frames := 1, cells := 0, slots := 0, locals := 21 }
def fX4_outside (g : Nat) (p0 : Int32) (p1 : Int32) (p2 : Int32) : Option (Int32) := bd1 (fX4_below g p0 p1) fun r7 => (bd1 (fX4_above g p0 p2) fun r9 => (bd1 (fX4_firstOf g r7 r9) fun r11 => (some r11)))
set_option maxHeartbeats 4000000 in
set_option maxRecDepth 100000 in
theorem kX4_outside (l : Launch) (D : va_G) (cI cJ : ClassId) (sz g : Nat) (p0 : Int32) (p1 : Int32) (p2 : Int32) (r : Int32) (hf : fX4_outside g p0 p1 p2 = some r) : Met l yX4_outside wsX4_outside rmX4_outside (va_Pc [.int p0, .int p1, .int p2] (sPc D (tyL cI cJ) [] sz)) (qI D (tyL cI cJ) [] sz [] r) 0 0 (va_A [] sz) := by
  refine st_i (cc := cX4_outside) (maxL := 3) (by decide) rfl (Nat.le_of_ble_eq_true rfl) ?_
  intro p e s m args below meth c A Q F hret0 H locs hP hS ls hl
  have F : Cx p s m args c cX4_outside 3 wsX4_outside RX4 D (tyL cI cJ) A := F
  have hx := F.1.1
  have hb := F.1.2.1
  have hown := F.1.2.2.2.1
  have hts := F.1.2.2.2.2
  have hret : ∀ (pc : Nat) (H : Heap) (locs : List Loc) (ls : Array Slot) (r' : Int32), some r' = some r → narrow .int (.int r') = .int r' → decode cX4_outside pc = .ok (.ireturn, 1) → WD D A [] H → va_S A s.heap H locs → W p l e rmX4_outside s m args below meth c H locs 0 0 Q (F0 m pc ls [.int r']) := by
    intro pc H locs ls r' h hn hd hP hS
    cases h
    exact hret0 pc H locs ls hn hd hP hS
  have hl : lv_has ls 3 [(0, .int p0), (1, .int p1), (2, .int p2)] := hl
  have h := hf
  unfold fX4_outside at h
  refine lv_iload_n hx hb dX4_outside_0 rfl (lv_at hl 0 rfl) ?_
  refine lv_iload_n hx hb dX4_outside_1 rfl (lv_at hl 1 rfl) ?_
  obtain ⟨r7, hk8, h⟩ := bd1_e h
  refine cS_i (rest := []) F (kX4_below l D cI cJ H.size g p0 p1 r7 hk8) (va_cwS 2 hts gX4_outside_X4_below rfl rfl rfl eSX4_below ⟨Nat.le_of_ble_eq_true rfl, Nat.le_of_ble_eq_true rfl⟩) [] hP hS (by decide) rfl rfl rfl hl.1 (Nat.le_of_ble_eq_true rfl) ⟨Nat.le_refl _, Nat.le_refl _⟩ rfl dX4_outside_2 (fun H locs hP hS => ?_)
  have hP : WD D A [] H := hP
  refine lv_iload_n hx hb dX4_outside_5 rfl (lv_at hl 0 rfl) ?_
  refine lv_iload_n hx hb dX4_outside_6 rfl (lv_at hl 2 rfl) ?_
  obtain ⟨r9, hk10, h⟩ := bd1_e h
  refine cS_i (rest := [.int r7]) F (kX4_above l D cI cJ H.size g p0 p2 r9 hk10) (va_cwS 2 hts gX4_outside_X4_above rfl rfl rfl eSX4_above ⟨Nat.le_of_ble_eq_true rfl, Nat.le_of_ble_eq_true rfl⟩) [] hP hS (by decide) rfl rfl rfl hl.1 (Nat.le_of_ble_eq_true rfl) ⟨Nat.le_refl _, Nat.le_refl _⟩ rfl dX4_outside_7 (fun H locs hP hS => ?_)
  have hP : WD D A [] H := hP
  obtain ⟨r11, hk12, h⟩ := bd1_e h
  refine cS_i (rest := []) F (kX4_firstOf l D cI cJ H.size g r7 r9 r11 hk12) (va_cwS 2 hts gX4_outside_X4_firstOf rfl rfl rfl eSX4_firstOf ⟨Nat.le_of_ble_eq_true rfl, Nat.le_of_ble_eq_true rfl⟩) [] hP hS (by decide) rfl rfl rfl hl.1 (Nat.le_of_ble_eq_true rfl) ⟨Nat.le_refl _, Nat.le_refl _⟩ rfl dX4_outside_10 (fun H locs hP hS => ?_)
  have hP : WD D A [] H := hP
  exact hret 13 H locs ls r11 h rfl dX4_outside_13 hP hS
theorem eSX4_refuse : yX4_refuse.cls ≠ "java/lang/invoke/MethodHandle" ∧ yX4_refuse.cls ≠ "java/lang/invoke/VarHandle" ∧ (parseMethodDescriptor yX4_refuse.desc).map (fun d => d.parameters.length) = some 1 := by decide +kernel
theorem eVX4_refuse : yX4_refuse.cls = RX4 ∧ yX4_refuse.cls ≠ "java/lang/invoke/MethodHandle" ∧ yX4_refuse.cls ≠ "java/lang/invoke/VarHandle" ∧ (parseMethodDescriptor yX4_refuse.desc).map (fun d => d.parameters.length) = some 1 := ⟨rfl, eSX4_refuse⟩
abbrev rmX4_refuse : Room := { frames := 0, cells := 0, slots := 0, locals := 0 }
def fX4_refuse (g : Nat) (p0 : Int32) (z_refusals : Nat → Int32) : Option (Int32 × (Nat → Int32)) := if (-p0) < 0 then (some (p0, z_refusals)) else (if 7 ≤ (-p0) then (some (p0, z_refusals)) else (gd (inB (-p0) 7) (gd (inB (-p0) 7) (some (p0, upd z_refusals (-p0).toNatClampNeg ((z_refusals (-p0).toNatClampNeg) + 1))))))
set_option maxHeartbeats 4000000 in
set_option maxRecDepth 100000 in
theorem kX4_refuse (l : Launch) (D : va_G) (cI cJ : ClassId) (sz g : Nat) (a_z a_z_now a_z_thought a_z_kept a_z_text a_z_weather a_z_lot a_z_numbers a_z_ends a_z_refusals : Nat) (z_keptTaken : Int32) (z_numberCount : Int32) (z_refusals : Nat → Int32) (p0 : Int32) (r : Int32) (n_z_refusals : Nat → Int32) (hf : fX4_refuse g p0 z_refusals = some (r, n_z_refusals)) : Met l yX4_refuse wsX4_refuse rmX4_refuse (va_Pc [.ref a_z, .int p0] (sPc D (tyL cI cJ) [(a_z, .inr (4, [.ref a_z_now, .ref a_z_thought, .ref a_z_kept, .int z_keptTaken, .ref a_z_text, .ref a_z_weather, .ref a_z_lot, .ref a_z_numbers, .int z_numberCount, .ref a_z_ends, .ref a_z_refusals])), (a_z_refusals, .inl (cI, 7, .inl z_refusals))] sz)) (qI D (tyL cI cJ) [(a_z, .inr (4, [.ref a_z_now, .ref a_z_thought, .ref a_z_kept, .int z_keptTaken, .ref a_z_text, .ref a_z_weather, .ref a_z_lot, .ref a_z_numbers, .int z_numberCount, .ref a_z_ends, .ref a_z_refusals])), (a_z_refusals, .inl (cI, 7, .inl z_refusals))] sz [(a_z, .inr (4, [.ref a_z_now, .ref a_z_thought, .ref a_z_kept, .int z_keptTaken, .ref a_z_text, .ref a_z_weather, .ref a_z_lot, .ref a_z_numbers, .int z_numberCount, .ref a_z_ends, .ref a_z_refusals])), (a_z_refusals, .inl (cI, 7, .inl n_z_refusals))] r) 0 0 (va_A [(a_z, .inr (4, [.ref a_z_now, .ref a_z_thought, .ref a_z_kept, .int z_keptTaken, .ref a_z_text, .ref a_z_weather, .ref a_z_lot, .ref a_z_numbers, .int z_numberCount, .ref a_z_ends, .ref a_z_refusals])), (a_z_refusals, .inl (cI, 7, .inl z_refusals))] sz) := by
  refine st_i (cc := cX4_refuse) (maxL := 3) (by decide) rfl (Nat.le_of_ble_eq_true rfl) ?_
  intro p e s m args below meth c A Q F hret0 H locs hP hS ls hl
  have F : Cx p s m args c cX4_refuse 3 wsX4_refuse RX4 D (tyL cI cJ) A := F
  have hx := F.1.1
  have hb := F.1.2.1
  have hown := F.1.2.2.2.1
  have hts := F.1.2.2.2.2
  have iX4 : ∀ w ∈ wsX40, w ∈ wsX4_refuse := fun w h => (List.mem_cons_of_mem _ (List.mem_append_right _ h))
  have hret : ∀ (pc : Nat) (H : Heap) (locs : List Loc) (ls : Array Slot) (r' : Int32) (m_z_refusals : Nat → Int32), some (r', m_z_refusals) = some (r, n_z_refusals) → narrow .int (.int r') = .int r' → decode cX4_refuse pc = .ok (.ireturn, 1) → WD D A [(a_z, .inr (4, [.ref a_z_now, .ref a_z_thought, .ref a_z_kept, .int z_keptTaken, .ref a_z_text, .ref a_z_weather, .ref a_z_lot, .ref a_z_numbers, .int z_numberCount, .ref a_z_ends, .ref a_z_refusals])), (a_z_refusals, .inl (cI, 7, .inl m_z_refusals))] H → va_S A s.heap H locs → W p l e rmX4_refuse s m args below meth c H locs 0 0 Q (F0 m pc ls [.int r']) := by
    intro pc H locs ls r' m_z_refusals h hn hd hP hS
    cases h
    exact hret0 pc H locs ls hn hd hP hS
  have hl : lv_has ls 3 [(0, .ref a_z), (1, .int p0)] := hl
  have h := hf
  unfold fX4_refuse at h
  refine lv_iload_n hx hb dX4_refuse_0 rfl (lv_at hl 1 rfl) ?_
  refine lv_ineg hx hb dX4_refuse_1 ?_
  refine lv_istore_n (lv' := [(2, .int (-p0)), (0, .ref a_z), (1, .int p0)]) hx hb dX4_refuse_2 rfl hl (by decide) rfl (fun ls hl => ?_)
  refine lv_iload_n hx hb dX4_refuse_3 rfl (lv_at hl 0 rfl) ?_
  refine lv_if_lt (tgt := 26) hx hb dX4_refuse_4 (by decide) (fun hc5 => ?_) (fun hc5 => ?_)
  · have h := it_p hc5 h
    refine lv_iload_n hx hb dX4_refuse_26 rfl (lv_at hl 2 rfl) ?_
    exact hret 27 H locs ls p0 z_refusals h rfl dX4_refuse_27 hP hS
  · have h := it_n hc5 h
    refine lv_iload_n hx hb dX4_refuse_7 rfl (lv_at hl 0 rfl) ?_
    refine lv_aload_n hx hb dX4_refuse_8 rfl (lv_at hl 1 rfl) ?_
    refine gt_X4_50 F iX4 (List.mem_cons_of_mem _ (List.mem_append_left _ (List.mem_of_getElem? (i := 0) rfl))) hP 0 rfl dX4_refuse_9 ?_
    refine r_ln F hP 1 rfl (v := 7) rfl dX4_refuse_12 ?_
    refine lv_icmp_ge (tgt := 26) hx hb dX4_refuse_13 (by decide) (fun hc6 => ?_) (fun hc6 => ?_)
    · have h := it_p hc6 h
      refine lv_iload_n hx hb dX4_refuse_26 rfl (lv_at hl 2 rfl) ?_
      exact hret 27 H locs ls p0 z_refusals h rfl dX4_refuse_27 hP hS
    · have h := it_n hc6 h
      refine lv_aload_n hx hb dX4_refuse_16 rfl (lv_at hl 1 rfl) ?_
      refine gt_X4_50 F iX4 (List.mem_cons_of_mem _ (List.mem_append_left _ (List.mem_of_getElem? (i := 0) rfl))) hP 0 rfl dX4_refuse_17 ?_
      refine lv_iload_n hx hb dX4_refuse_20 rfl (lv_at hl 0 rfl) ?_
      refine lv_dup2_11 hx hb dX4_refuse_21 rfl rfl ?_
      obtain ⟨hg7, h⟩ := gd_e h
      refine r_ia F hP 1 rfl rfl hg7 dX4_refuse_22 ?_
      refine lv_iconst (v := 1) hx hb dX4_refuse_23 (by decide) ?_
      refine lv_iadd hx hb dX4_refuse_24 ?_
      obtain ⟨hg8, h⟩ := gd_e h
      refine r_is F hP hS 1 rfl rfl hg8 dX4_refuse_25 (fun H locs hP hS => ?_)
      have hP : WD D A [(a_z, .inr (4, [.ref a_z_now, .ref a_z_thought, .ref a_z_kept, .int z_keptTaken, .ref a_z_text, .ref a_z_weather, .ref a_z_lot, .ref a_z_numbers, .int z_numberCount, .ref a_z_ends, .ref a_z_refusals])), (a_z_refusals, .inl (cI, 7, .inl (upd z_refusals (-p0).toNatClampNeg ((z_refusals (-p0).toNatClampNeg) + 1))))] H := hP
      refine lv_iload_n hx hb dX4_refuse_26 rfl (lv_at hl 2 rfl) ?_
      exact hret 27 H locs ls p0 (upd z_refusals (-p0).toNatClampNeg ((z_refusals (-p0).toNatClampNeg) + 1)) h rfl dX4_refuse_27 hP hS
