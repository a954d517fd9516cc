theorem eSX4_on : yX4_on.cls ≠ "java/lang/invoke/MethodHandle" ∧ yX4_on.cls ≠ "java/lang/invoke/VarHandle" ∧ (parseMethodDescriptor yX4_on.desc).map (fun d => d.parameters.length) = some 0 := by decide +kernel
theorem eVX4_on : yX4_on.cls = RX4 ∧ yX4_on.cls ≠ "java/lang/invoke/MethodHandle" ∧ yX4_on.cls ≠ "java/lang/invoke/VarHandle" ∧ (parseMethodDescriptor yX4_on.desc).map (fun d => d.parameters.length) = some 0 := ⟨rfl, eSX4_on⟩
abbrev rmX4_on : Room := { frames := 2, cells := 0, slots := 0, locals := 39 }
def fX4_on (g : Nat) (z_keptTaken : Int32) (z_now_places : Int32) (z_now_hands : Int32) (z_now_aboard : Int32) (z_now_ship : Int32) (z_now_day : Int32) (z_now_cells : Nat → Int32) (z_now_kinds : Nat → Int32) (z_now_figures : Nat → Int32) (z_now_longings : Nat → Int32) (z_now_seas : Nat → Int32) (z_kept_places : Int32) (z_kept_hands : Int32) (z_kept_aboard : Int32) (z_kept_ship : Int32) (z_kept_day : Int32) (z_kept_cells : Nat → Int32) (z_kept_kinds : Nat → Int32) (z_kept_figures : Nat → Int32) (z_kept_longings : Nat → Int32) (z_kept_seas : Nat → Int32) (z_refusals : Nat → Int32) : Option (Int32 × Int32 × Int32 × Int32 × Int32 × Int32 × (Nat → Int32) × (Nat → Int32) × (Nat → Int32) × (Nat → Int32) × (Nat → Int32) × (Nat → Int32)) := if z_keptTaken = 0 then (bd2 (fX4_refuse g (-3) z_refusals) fun r28 z_refusals_29 => (some (r28, z_now_places, z_now_hands, z_now_aboard, z_now_ship, z_now_day, z_now_cells, z_now_kinds, z_now_figures, z_now_longings, z_now_seas, z_refusals_29))) else (bd10 (fX3_becomeLike g z_now_cells z_now_kinds z_now_figures z_now_longings z_now_seas z_kept_places z_kept_hands z_kept_aboard z_kept_ship z_kept_day z_kept_cells z_kept_kinds z_kept_figures z_kept_longings z_kept_seas) fun z_now_places_17 z_now_hands_18 z_now_aboard_19 z_now_ship_20 z_now_day_21 z_now_cells_22 z_now_kinds_23 z_now_figures_24 z_now_longings_25 z_now_seas_26 => (some (z_now_day_21, z_now_places_17, z_now_hands_18, z_now_aboard_19, z_now_ship_20, z_now_day_21, z_now_cells_22, z_now_kinds_23, z_now_figures_24, z_now_longings_25, z_now_seas_26, z_refusals)))
set_option maxHeartbeats 4000000 in
set_option maxRecDepth 100000 in
theorem kX4_on (l : Launch) (D : va_G) (cI cJ : ClassId) (sz g : Nat) (a_z a_z_now a_z_thought a_z_kept a_z_text a_z_weather a_z_lot a_z_numbers a_z_ends a_z_refusals a_z_now_cells a_z_now_kinds a_z_now_figures a_z_now_longings a_z_now_seas a_z_kept_cells a_z_kept_kinds a_z_kept_figures a_z_kept_longings a_z_kept_seas : Nat) (z_keptTaken : Int32) (z_numberCount : Int32) (z_now_places : Int32) (z_now_hands : Int32) (z_now_aboard : Int32) (z_now_ship : Int32) (z_now_day : Int32) (z_now_rows : Int32) (z_now_columns : Int32) (z_now_cells : Nat → Int32) (z_now_kinds : Nat → Int32) (z_now_figures : Nat → Int32) (z_now_longings : Nat → Int32) (z_now_seas : Nat → Int32) (z_kept_places : Int32) (z_kept_hands : Int32) (z_kept_aboard : Int32) (z_kept_ship : Int32) (z_kept_day : Int32) (z_kept_rows : Int32) (z_kept_columns : Int32) (z_kept_cells : Nat → Int32) (z_kept_kinds : Nat → Int32) (z_kept_figures : Nat → Int32) (z_kept_longings : Nat → Int32) (z_kept_seas : Nat → Int32) (z_refusals : Nat → Int32) (r : Int32) (n_z_now_places : Int32) (n_z_now_hands : Int32) (n_z_now_aboard : Int32) (n_z_now_ship : Int32) (n_z_now_day : Int32) (n_z_now_cells : Nat → Int32) (n_z_now_kinds : Nat → Int32) (n_z_now_figures : Nat → Int32) (n_z_now_longings : Nat → Int32) (n_z_now_seas : Nat → Int32) (n_z_refusals : Nat → Int32) (hf : fX4_on g z_keptTaken z_now_places z_now_hands z_now_aboard z_now_ship z_now_day z_now_cells z_now_kinds z_now_figures z_now_longings z_now_seas z_kept_places z_kept_hands z_kept_aboard z_kept_ship z_kept_day z_kept_cells z_kept_kinds z_kept_figures z_kept_longings z_kept_seas z_refusals = some (r, n_z_now_places, n_z_now_hands, n_z_now_aboard, n_z_now_ship, n_z_now_day, n_z_now_cells, n_z_now_kinds, n_z_now_figures, n_z_now_longings, n_z_now_seas, n_z_refusals)) : Met l yX4_on wsX4_on rmX4_on (va_Pc [.ref a_z] (sPc D (tyL cI cJ) [(a_z, .inr (4, [.ref a_z_now, .ref a_z_thought, .ref a_z_kept, .int z_keptTaken, .ref a_z_text, .ref a_z_weather, .ref a_z_lot, .ref a_z_numbers, .int z_numberCount, .ref a_z_ends, .ref a_z_refusals])), (a_z_now, .inr (3, [.ref a_z_now_cells, .int z_now_places, .ref a_z_now_kinds, .ref a_z_now_figures, .ref a_z_now_longings, .ref a_z_now_seas, .int z_now_hands, .int z_now_aboard, .int z_now_ship, .int z_now_day, .int z_now_rows, .int z_now_columns])), (a_z_now_cells, .inl (cI, 6, .inl z_now_cells)), (a_z_now_kinds, .inl (cI, 7, .inl z_now_kinds)), (a_z_now_figures, .inl (cI, 7, .inl z_now_figures)), (a_z_now_longings, .inl (cI, 7, .inl z_now_longings)), (a_z_now_seas, .inl (cI, 7, .inl z_now_seas)), (a_z_kept, .inr (3, [.ref a_z_kept_cells, .int z_kept_places, .ref a_z_kept_kinds, .ref a_z_kept_figures, .ref a_z_kept_longings, .ref a_z_kept_seas, .int z_kept_hands, .int z_kept_aboard, .int z_kept_ship, .int z_kept_day, .int z_kept_rows, .int z_kept_columns])), (a_z_kept_cells, .inl (cI, 6, .inl z_kept_cells)), (a_z_kept_kinds, .inl (cI, 7, .inl z_kept_kinds)), (a_z_kept_figures, .inl (cI, 7, .inl z_kept_figures)), (a_z_kept_longings, .inl (cI, 7, .inl z_kept_longings)), (a_z_kept_seas, .inl (cI, 7, .inl z_kept_seas)), (a_z_refusals, .inl (cI, 7, .inl z_refusals))] sz)) (qI D (tyL cI cJ) [(a_z, .inr (4, [.ref a_z_now, .ref a_z_thought, .ref a_z_kept, .int z_keptTaken, .ref a_z_text, .ref a_z_weather, .ref a_z_lot, .ref a_z_numbers, .int z_numberCount, .ref a_z_ends, .ref a_z_refusals])), (a_z_now, .inr (3, [.ref a_z_now_cells, .int z_now_places, .ref a_z_now_kinds, .ref a_z_now_figures, .ref a_z_now_longings, .ref a_z_now_seas, .int z_now_hands, .int z_now_aboard, .int z_now_ship, .int z_now_day, .int z_now_rows, .int z_now_columns])), (a_z_now_cells, .inl (cI, 6, .inl z_now_cells)), (a_z_now_kinds, .inl (cI, 7, .inl z_now_kinds)), (a_z_now_figures, .inl (cI, 7, .inl z_now_figures)), (a_z_now_longings, .inl (cI, 7, .inl z_now_longings)), (a_z_now_seas, .inl (cI, 7, .inl z_now_seas)), (a_z_kept, .inr (3, [.ref a_z_kept_cells, .int z_kept_places, .ref a_z_kept_kinds, .ref a_z_kept_figures, .ref a_z_kept_longings, .ref a_z_kept_seas, .int z_kept_hands, .int z_kept_aboard, .int z_kept_ship, .int z_kept_day, .int z_kept_rows, .int z_kept_columns])), (a_z_kept_cells, .inl (cI, 6, .inl z_kept_cells)), (a_z_kept_kinds, .inl (cI, 7, .inl z_kept_kinds)), (a_z_kept_figures, .inl (cI, 7, .inl z_kept_figures)), (a_z_kept_longings, .inl (cI, 7, .inl z_kept_longings)), (a_z_kept_seas, .inl (cI, 7, .inl z_kept_seas)), (a_z_refusals, .inl (cI, 7, .inl z_refusals))] sz [(a_z, .inr (4, [.ref a_z_now, .ref a_z_thought, .ref a_z_kept, .int z_keptTaken, .ref a_z_text, .ref a_z_weather, .ref a_z_lot, .ref a_z_numbers, .int z_numberCount, .ref a_z_ends, .ref a_z_refusals])), (a_z_now, .inr (3, [.ref a_z_now_cells, .int n_z_now_places, .ref a_z_now_kinds, .ref a_z_now_figures, .ref a_z_now_longings, .ref a_z_now_seas, .int n_z_now_hands, .int n_z_now_aboard, .int n_z_now_ship, .int n_z_now_day, .int z_now_rows, .int z_now_columns])), (a_z_now_cells, .inl (cI, 6, .inl n_z_now_cells)), (a_z_now_kinds, .inl (cI, 7, .inl n_z_now_kinds)), (a_z_now_figures, .inl (cI, 7, .inl n_z_now_figures)), (a_z_now_longings, .inl (cI, 7, .inl n_z_now_longings)), (a_z_now_seas, .inl (cI, 7, .inl n_z_now_seas)), (a_z_kept, .inr (3, [.ref a_z_kept_cells, .int z_kept_places, .ref a_z_kept_kinds, .ref a_z_kept_figures, .ref a_z_kept_longings, .ref a_z_kept_seas, .int z_kept_hands, .int z_kept_aboard, .int z_kept_ship, .int z_kept_day, .int z_kept_rows, .int z_kept_columns])), (a_z_kept_cells, .inl (cI, 6, .inl z_kept_cells)), (a_z_kept_kinds, .inl (cI, 7, .inl z_kept_kinds)), (a_z_kept_figures, .inl (cI, 7, .inl z_kept_figures)), (a_z_kept_longings, .inl (cI, 7, .inl z_kept_longings)), (a_z_kept_seas, .inl (cI, 7, .inl z_kept_seas)), (a_z_refusals, .inl (cI, 7, .inl n_z_refusals))] r) 0 0 (va_A [(a_z, .inr (4, [.ref a_z_now, .ref a_z_thought, .ref a_z_kept, .int z_keptTaken, .ref a_z_text, .ref a_z_weather, .ref a_z_lot, .ref a_z_numbers, .int z_numberCount, .ref a_z_ends, .ref a_z_refusals])), (a_z_now, .inr (3, [.ref a_z_now_cells, .int z_now_places, .ref a_z_now_kinds, .ref a_z_now_figures, .ref a_z_now_longings, .ref a_z_now_seas, .int z_now_hands, .int z_now_aboard, .int z_now_ship, .int z_now_day, .int z_now_rows, .int z_now_columns])), (a_z_now_cells, .inl (cI, 6, .inl z_now_cells)), (a_z_now_kinds, .inl (cI, 7, .inl z_now_kinds)), (a_z_now_figures, .inl (cI, 7, .inl z_now_figures)), (a_z_now_longings, .inl (cI, 7, .inl z_now_longings)), (a_z_now_seas, .inl (cI, 7, .inl z_now_seas)), (a_z_kept, .inr (3, [.ref a_z_kept_cells, .int z_kept_places, .ref a_z_kept_kinds, .ref a_z_kept_figures, .ref a_z_kept_longings, .ref a_z_kept_seas, .int z_kept_hands, .int z_kept_aboard, .int z_kept_ship, .int z_kept_day, .int z_kept_rows, .int z_kept_columns])), (a_z_kept_cells, .inl (cI, 6, .inl z_kept_cells)), (a_z_kept_kinds, .inl (cI, 7, .inl z_kept_kinds)), (a_z_kept_figures, .inl (cI, 7, .inl z_kept_figures)), (a_z_kept_longings, .inl (cI, 7, .inl z_kept_longings)), (a_z_kept_seas, .inl (cI, 7, .inl z_kept_seas)), (a_z_refusals, .inl (cI, 7, .inl z_refusals))] sz) := by
  refine st_i (cc := cX4_on) (maxL := 1) (by decide) rfl (Nat.le_of_ble_eq_true rfl) ?_
  intro p e s m args below meth c A Q F hret0 H locs hP hS ls hl
  have F : Cx p s m args c cX4_on 1 wsX4_on RX4 D (tyL cI cJ) A := F
  have hx := F.1.1
  have hb := F.1.2.1
  have hown := F.1.2.2.2.1
  have hts := F.1.2.2.2.2
  have iX3 : ∀ w ∈ wsX30, w ∈ wsX4_on := fun w h => (List.mem_cons_of_mem _ (List.mem_append_right _ h))
  have iX4 : ∀ w ∈ wsX40, w ∈ wsX4_on := fun w h => (List.mem_cons_of_mem _ (List.mem_append_left _ (List.mem_append_right _ h)))
  have hret : ∀ (pc : Nat) (H : Heap) (locs : List Loc) (ls : Array Slot) (r' : Int32) (m_z_now_places : Int32) (m_z_now_hands : Int32) (m_z_now_aboard : Int32) (m_z_now_ship : Int32) (m_z_now_day : Int32) (m_z_now_cells : Nat → Int32) (m_z_now_kinds : Nat → Int32) (m_z_now_figures : Nat → Int32) (m_z_now_longings : Nat → Int32) (m_z_now_seas : Nat → Int32) (m_z_refusals : Nat → Int32), some (r', m_z_now_places, m_z_now_hands, m_z_now_aboard, m_z_now_ship, m_z_now_day, m_z_now_cells, m_z_now_kinds, m_z_now_figures, m_z_now_longings, m_z_now_seas, m_z_refusals) = some (r, n_z_now_places, n_z_now_hands, n_z_now_aboard, n_z_now_ship, n_z_now_day, n_z_now_cells, n_z_now_kinds, n_z_now_figures, n_z_now_longings, n_z_now_seas, n_z_refusals) → narrow .int (.int r') = .int r' → decode cX4_on pc = .ok (.ireturn, 1) → WD D A [(a_z, .inr (4, [.ref a_z_now, .ref a_z_thought, .ref a_z_kept, .int z_keptTaken, .ref a_z_text, .ref a_z_weather, .ref a_z_lot, .ref a_z_numbers, .int z_numberCount, .ref a_z_ends, .ref a_z_refusals])), (a_z_now, .inr (3, [.ref a_z_now_cells, .int m_z_now_places, .ref a_z_now_kinds, .ref a_z_now_figures, .ref a_z_now_longings, .ref a_z_now_seas, .int m_z_now_hands, .int m_z_now_aboard, .int m_z_now_ship, .int m_z_now_day, .int z_now_rows, .int z_now_columns])), (a_z_now_cells, .inl (cI, 6, .inl m_z_now_cells)), (a_z_now_kinds, .inl (cI, 7, .inl m_z_now_kinds)), (a_z_now_figures, .inl (cI, 7, .inl m_z_now_figures)), (a_z_now_longings, .inl (cI, 7, .inl m_z_now_longings)), (a_z_now_seas, .inl (cI, 7, .inl m_z_now_seas)), (a_z_kept, .inr (3, [.ref a_z_kept_cells, .int z_kept_places, .ref a_z_kept_kinds, .ref a_z_kept_figures, .ref a_z_kept_longings, .ref a_z_kept_seas, .int z_kept_hands, .int z_kept_aboard, .int z_kept_ship, .int z_kept_day, .int z_kept_rows, .int z_kept_columns])), (a_z_kept_cells, .inl (cI, 6, .inl z_kept_cells)), (a_z_kept_kinds, .inl (cI, 7, .inl z_kept_kinds)), (a_z_kept_figures, .inl (cI, 7, .inl z_kept_figures)), (a_z_kept_longings, .inl (cI, 7, .inl z_kept_longings)), (a_z_kept_seas, .inl (cI, 7, .inl z_kept_seas)), (a_z_refusals, .inl (cI, 7, .inl m_z_refusals))] H → va_S A s.heap H locs → W p l e rmX4_on s m args below meth c H locs 0 0 Q (F0 m pc ls [.int r']) := by
    intro pc H locs ls r' m_z_now_places m_z_now_hands m_z_now_aboard m_z_now_ship m_z_now_day m_z_now_cells m_z_now_kinds m_z_now_figures m_z_now_longings m_z_now_seas m_z_refusals h hn hd hP hS
    cases h
    exact hret0 pc H locs ls hn hd hP hS
  have hl : lv_has ls 1 [(0, .ref a_z)] := hl
  have h := hf
  unfold fX4_on at h
  refine lv_aload_n hx hb dX4_on_0 rfl (lv_at hl 0 rfl) ?_
  refine gt_X4_249 F iX4 (List.mem_cons_of_mem _ (List.mem_append_left _ (List.mem_append_left _ (List.mem_append_left _ (List.mem_of_getElem? (i := 0) rfl))))) hP 0 rfl dX4_on_1 ?_
  refine lv_if_ne (tgt := 14) hx hb dX4_on_4 (by decide) (fun hc16 => ?_) (fun hc16 => ?_)
  · have h := it_n hc16 h
    refine lv_aload_n hx hb dX4_on_14 rfl (lv_at hl 0 rfl) ?_
    refine gt_X4_10 F iX4 (List.mem_cons_of_mem _ (List.mem_append_left _ (List.mem_append_left _ (List.mem_append_left _ (List.mem_of_getElem? (i := 1) rfl))))) hP 0 rfl dX4_on_15 ?_
    refine lv_aload_n hx hb dX4_on_18 rfl (lv_at hl 0 rfl) ?_
    refine gt_X4_19 F iX4 (List.mem_cons_of_mem _ (List.mem_append_left _ (List.mem_append_left _ (List.mem_append_left _ (List.mem_of_getElem? (i := 2) rfl))))) hP 0 rfl dX4_on_19 ?_
    obtain ⟨z_now_places_17, z_now_hands_18, z_now_aboard_19, z_now_ship_20, z_now_day_21, z_now_cells_22, z_now_kinds_23, z_now_figures_24, z_now_longings_25, z_now_seas_26, hk27, h⟩ := bd10_e h
    refine cV_v (rest := []) F (kX3_becomeLike l D cI cJ H.size g a_z_now a_z_now_cells a_z_now_kinds a_z_now_figures a_z_now_longings a_z_now_seas a_z_kept a_z_kept_cells a_z_kept_kinds a_z_kept_figures a_z_kept_longings a_z_kept_seas z_now_places z_now_hands z_now_aboard z_now_ship z_now_day z_now_rows z_now_columns z_now_cells z_now_kinds z_now_figures z_now_longings z_now_seas z_kept_places z_kept_hands z_kept_aboard z_kept_ship z_kept_day z_kept_rows z_kept_columns z_kept_cells z_kept_kinds z_kept_figures z_kept_longings z_kept_seas z_now_places_17 z_now_hands_18 z_now_aboard_19 z_now_ship_20 z_now_day_21 z_now_cells_22 z_now_kinds_23 z_now_figures_24 z_now_longings_25 z_now_seas_26 hk27) (cwV 1 hts gX4_on_X3_becomeLike rfl rfl rfl eVX3_becomeLike ⟨Nat.le_of_ble_eq_true rfl, Nat.le_of_ble_eq_true rfl⟩) [1, 2, 3, 4, 5, 6, 7, 8, 9, 10, 11, 12] hP hS (by decide) rfl rfl 0 rfl rfl rfl hl.1 (Nat.le_of_ble_eq_true rfl) ⟨Nat.le_refl _, Nat.le_refl _⟩ rfl dX4_on_22 (fun H locs hP hS => ?_)
    have hP : WD D A [(a_z, .inr (4, [.ref a_z_now, .ref a_z_thought, .ref a_z_kept, .int z_keptTaken, .ref a_z_text, .ref a_z_weather, .ref a_z_lot, .ref a_z_numbers, .int z_numberCount, .ref a_z_ends, .ref a_z_refusals])), (a_z_now, .inr (3, [.ref a_z_now_cells, .int z_now_places_17, .ref a_z_now_kinds, .ref a_z_now_figures, .ref a_z_now_longings, .ref a_z_now_seas, .int z_now_hands_18, .int z_now_aboard_19, .int z_now_ship_20, .int z_now_day_21, .int z_now_rows, .int z_now_columns])), (a_z_now_cells, .inl (cI, 6, .inl z_now_cells_22)), (a_z_now_kinds, .inl (cI, 7, .inl z_now_kinds_23)), (a_z_now_figures, .inl (cI, 7, .inl z_now_figures_24)), (a_z_now_longings, .inl (cI, 7, .inl z_now_longings_25)), (a_z_now_seas, .inl (cI, 7, .inl z_now_seas_26)), (a_z_kept, .inr (3, [.ref a_z_kept_cells, .int z_kept_places, .ref a_z_kept_kinds, .ref a_z_kept_figures, .ref a_z_kept_longings, .ref a_z_kept_seas, .int z_kept_hands, .int z_kept_aboard, .int z_kept_ship, .int z_kept_day, .int z_kept_rows, .int z_kept_columns])), (a_z_kept_cells, .inl (cI, 6, .inl z_kept_cells)), (a_z_kept_kinds, .inl (cI, 7, .inl z_kept_kinds)), (a_z_kept_figures, .inl (cI, 7, .inl z_kept_figures)), (a_z_kept_longings, .inl (cI, 7, .inl z_kept_longings)), (a_z_kept_seas, .inl (cI, 7, .inl z_kept_seas)), (a_z_refusals, .inl (cI, 7, .inl z_refusals))] H := hP
    refine lv_aload_n hx hb dX4_on_25 rfl (lv_at hl 0 rfl) ?_
    refine gt_X4_10 F iX4 (List.mem_cons_of_mem _ (List.mem_append_left _ (List.mem_append_left _ (List.mem_append_left _ (List.mem_of_getElem? (i := 1) rfl))))) hP 0 rfl dX4_on_26 ?_
    refine gt_X4_253 F iX3 (F.2.2.1.f 9 rfl) hP 1 rfl dX4_on_29 ?_
    exact hret 32 H locs ls z_now_day_21 z_now_places_17 z_now_hands_18 z_now_aboard_19 z_now_ship_20 z_now_day_21 z_now_cells_22 z_now_kinds_23 z_now_figures_24 z_now_longings_25 z_now_seas_26 z_refusals h rfl dX4_on_32 hP hS
  · have h := it_p hc16 h
    refine lv_aload_n hx hb dX4_on_7 rfl (lv_at hl 0 rfl) ?_
    refine lv_bipush (v := (-3)) hx hb dX4_on_8 (by decide) ?_
    obtain ⟨r28, z_refusals_29, hk30, h⟩ := bd2_e h
    refine cV_i (rest := []) F (kX4_refuse l D cI cJ H.size g a_z a_z_now a_z_thought a_z_kept a_z_text a_z_weather a_z_lot a_z_numbers a_z_ends a_z_refusals z_keptTaken z_numberCount z_refusals (-3) r28 z_refusals_29 hk30) (cwV 1 hts gX4_on_X4_refuse rfl rfl rfl eVX4_refuse ⟨Nat.le_of_ble_eq_true rfl, Nat.le_of_ble_eq_true rfl⟩) [0, 13] hP hS (by decide) rfl rfl 0 rfl rfl rfl hl.1 (Nat.le_of_ble_eq_true rfl) ⟨Nat.le_refl _, Nat.le_refl _⟩ rfl dX4_on_10 (fun H locs hP hS => ?_)
    have hP : WD D A [(a_z, .inr (4, [.ref a_z_now, .ref a_z_thought, .ref a_z_kept, .int z_keptTaken, .ref a_z_text, .ref a_z_weather, .ref a_z_lot, .ref a_z_numbers, .int z_numberCount, .ref a_z_ends, .ref a_z_refusals])), (a_z_now, .inr (3, [.ref a_z_now_cells, .int z_now_places, .ref a_z_now_kinds, .ref a_z_now_figures, .ref a_z_now_longings, .ref a_z_now_seas, .int z_now_hands, .int z_now_aboard, .int z_now_ship, .int z_now_day, .int z_now_rows, .int z_now_columns])), (a_z_now_cells, .inl (cI, 6, .inl z_now_cells)), (a_z_now_kinds, .inl (cI, 7, .inl z_now_kinds)), (a_z_now_figures, .inl (cI, 7, .inl z_now_figures)), (a_z_now_longings, .inl (cI, 7, .inl z_now_longings)), (a_z_now_seas, .inl (cI, 7, .inl z_now_seas)), (a_z_kept, .inr (3, [.ref a_z_kept_cells, .int z_kept_places, .ref a_z_kept_kinds, .ref a_z_kept_figures, .ref a_z_kept_longings, .ref a_z_kept_seas, .int z_kept_hands, .int z_kept_aboard, .int z_kept_ship, .int z_kept_day, .int z_kept_rows, .int z_kept_columns])), (a_z_kept_cells, .inl (cI, 6, .inl z_kept_cells)), (a_z_kept_kinds, .inl (cI, 7, .inl z_kept_kinds)), (a_z_kept_figures, .inl (cI, 7, .inl z_kept_figures)), (a_z_kept_longings, .inl (cI, 7, .inl z_kept_longings)), (a_z_kept_seas, .inl (cI, 7, .inl z_kept_seas)), (a_z_refusals, .inl (cI, 7, .inl z_refusals_29))] H := hP
    exact hret 13 H locs ls r28 z_now_places z_now_hands z_now_aboard z_now_ship z_now_day z_now_cells z_now_kinds z_now_figures z_now_longings z_now_seas z_refusals_29 h rfl dX4_on_13 hP hS
theorem eSX4_count : yX4_count.cls ≠ "java/lang/invoke/MethodHandle" ∧ yX4_count.cls ≠ "java/lang/invoke/VarHandle" ∧ (parseMethodDescriptor yX4_count.desc).map (fun d => d.parameters.length) = some 1 := by decide +kernel
theorem eVX4_count : yX4_count.cls = RX4 ∧ yX4_count.cls ≠ "java/lang/invoke/MethodHandle" ∧ yX4_count.cls ≠ "java/lang/invoke/VarHandle" ∧ (parseMethodDescriptor yX4_count.desc).map (fun d => d.parameters.length) = some 1 := ⟨rfl, eSX4_count⟩
abbrev rmX4_count : Room := { frames := 1, cells := 0, slots := 0, locals := 22 }
def fX4_count (g : Nat) (p0 : Int32) (z_numberCount : Int32) (z_now_places : Int32) (z_now_hands : Int32) (z_now_aboard : Int32) (z_now_ship : Int32) (z_now_day : Int32) (z_now_seas : Nat → Int32) (z_text_size : Int32) (z_refusals : Nat → Int32) : Option (Int32) := if p0 < 11 then (if p0 = 0 then (some z_now_places) else (if p0 = 1 then (some z_now_hands) else (if p0 = 2 then (some z_now_day) else (if p0 = 3 then (some z_now_ship) else (if p0 = 4 then (some z_now_aboard) else (if p0 = 5 then (bd1 (fX3_seaOfAll g z_now_hands z_now_seas) fun r33 => (some r33)) else (if p0 = 6 then (some z_numberCount) else (if p0 = 7 then (some z_text_size) else (some (-9)))))))))) else (if 7 ≤ ((p0 - 11) + 1) then (if p0 = 0 then (some z_now_places) else (if p0 = 1 then (some z_now_hands) else (if p0 = 2 then (some z_now_day) else (if p0 = 3 then (some z_now_ship) else (if p0 = 4 then (some z_now_aboard) else (if p0 = 5 then (bd1 (fX3_seaOfAll g z_now_hands z_now_seas) fun r44 => (some r44)) else (if p0 = 6 then (some z_numberCount) else (if p0 = 7 then (some z_text_size) else (some (-9)))))))))) else (gd (inB ((p0 - 11) + 1) 7) (some (z_refusals ((p0 - 11) + 1).toNatClampNeg))))
set_option maxHeartbeats 4000000 in
set_option maxRecDepth 100000 in
theorem kX4_count (l : Launch) (D : va_G) (cI cJ : ClassId) (sz g : Nat) (a_z a_z_now a_z_thought a_z_kept a_z_text a_z_weather a_z_lot a_z_numbers a_z_ends a_z_refusals a_z_now_cells a_z_now_kinds a_z_now_figures a_z_now_longings a_z_now_seas a_z_text_signs : Nat) (z_keptTaken : Int32) (z_numberCount : Int32) (z_now_places : Int32) (z_now_hands : Int32) (z_now_aboard : Int32) (z_now_ship : Int32) (z_now_day : Int32) (z_now_rows : Int32) (z_now_columns : Int32) (z_now_seas : Nat → Int32) (z_text_size : Int32) (z_refusals : Nat → Int32) (p0 : Int32) (r : Int32) (hf : fX4_count g p0 z_numberCount z_now_places z_now_hands z_now_aboard z_now_ship z_now_day z_now_seas z_text_size z_refusals = some r) : Met l yX4_count wsX4_count rmX4_count (va_Pc [.ref a_z, .int p0] (sPc D (tyL cI cJ) [(a_z, .inr (4, [.ref a_z_now, .ref a_z_thought, .ref a_z_kept, .int z_keptTaken, .ref a_z_text, .ref a_z_weather, .ref a_z_lot, .ref a_z_numbers, .int z_numberCount, .ref a_z_ends, .ref a_z_refusals])), (a_z_now, .inr (3, [.ref a_z_now_cells, .int z_now_places, .ref a_z_now_kinds, .ref a_z_now_figures, .ref a_z_now_longings, .ref a_z_now_seas, .int z_now_hands, .int z_now_aboard, .int z_now_ship, .int z_now_day, .int z_now_rows, .int z_now_columns])), (a_z_now_seas, .inl (cI, 7, .inl z_now_seas)), (a_z_text, .inr (2, [.ref a_z_text_signs, .int z_text_size])), (a_z_refusals, .inl (cI, 7, .inl z_refusals))] sz)) (qI D (tyL cI cJ) [(a_z, .inr (4, [.ref a_z_now, .ref a_z_thought, .ref a_z_kept, .int z_keptTaken, .ref a_z_text, .ref a_z_weather, .ref a_z_lot, .ref a_z_numbers, .int z_numberCount, .ref a_z_ends, .ref a_z_refusals])), (a_z_now, .inr (3, [.ref a_z_now_cells, .int z_now_places, .ref a_z_now_kinds, .ref a_z_now_figures, .ref a_z_now_longings, .ref a_z_now_seas, .int z_now_hands, .int z_now_aboard, .int z_now_ship, .int z_now_day, .int z_now_rows, .int z_now_columns])), (a_z_now_seas, .inl (cI, 7, .inl z_now_seas)), (a_z_text, .inr (2, [.ref a_z_text_signs, .int z_text_size])), (a_z_refusals, .inl (cI, 7, .inl z_refusals))] sz [(a_z, .inr (4, [.ref a_z_now, .ref a_z_thought, .ref a_z_kept, .int z_keptTaken, .ref a_z_text, .ref a_z_weather, .ref a_z_lot, .ref a_z_numbers, .int z_numberCount, .ref a_z_ends, .ref a_z_refusals])), (a_z_now, .inr (3, [.ref a_z_now_cells, .int z_now_places, .ref a_z_now_kinds, .ref a_z_now_figures, .ref a_z_now_longings, .ref a_z_now_seas, .int z_now_hands, .int z_now_aboard, .int z_now_ship, .int z_now_day, .int z_now_rows, .int z_now_columns])), (a_z_now_seas, .inl (cI, 7, .inl z_now_seas)), (a_z_text, .inr (2, [.ref a_z_text_signs, .int z_text_size])), (a_z_refusals, .inl (cI, 7, .inl z_refusals))] r) 0 0 (va_A [(a_z, .inr (4, [.ref a_z_now, .ref a_z_thought, .ref a_z_kept, .int z_keptTaken, .ref a_z_text, .ref a_z_weather, .ref a_z_lot, .ref a_z_numbers, .int z_numberCount, .ref a_z_ends, .ref a_z_refusals])), (a_z_now, .inr (3, [.ref a_z_now_cells, .int z_now_places, .ref a_z_now_kinds, .ref a_z_now_figures, .ref a_z_now_longings, .ref a_z_now_seas, .int z_now_hands, .int z_now_aboard, .int z_now_ship, .int z_now_day, .int z_now_rows, .int z_now_columns])), (a_z_now_seas, .inl (cI, 7, .inl z_now_seas)), (a_z_text, .inr (2, [.ref a_z_text_signs, .int z_text_size])), (a_z_refusals, .inl (cI, 7, .inl z_refusals))] sz) := by
  refine st_i (cc := cX4_count) (maxL := 3) (by decide) rfl (Nat.le_of_ble_eq_true rfl) ?_
  intro p e s m args below meth c A Q F hret0 H locs hP hS ls hl
  have F : Cx p s m args c cX4_count 3 wsX4_count RX4 D (tyL cI cJ) A := F
  have hx := F.1.1
  have hb := F.1.2.1
  have hown := F.1.2.2.2.1
  have hts := F.1.2.2.2.2
  have iX2 : ∀ w ∈ wsX20, w ∈ wsX4_count := fun w h => (List.mem_cons_of_mem _ (List.mem_append_right _ h))
  have iX3 : ∀ w ∈ wsX30, w ∈ wsX4_count := fun w h => (List.mem_cons_of_mem _ (List.mem_append_left _ (List.mem_append_right _ h)))
  have iX4 : ∀ w ∈ wsX40, w ∈ wsX4_count := fun w h => (List.mem_cons_of_mem _ (List.mem_append_left _ (List.mem_append_left _ (List.mem_append_right _ h))))
  have hret : ∀ (pc : Nat) (H : Heap) (locs : List Loc) (ls : Array Slot) (r' : Int32), some r' = some r → narrow .int (.int r') = .int r' → decode cX4_count pc = .ok (.ireturn, 1) → WD D A [(a_z, .inr (4, [.ref a_z_now, .ref a_z_thought, .ref a_z_kept, .int z_keptTaken, .ref a_z_text, .ref a_z_weather, .ref a_z_lot, .ref a_z_numbers, .int z_numberCount, .ref a_z_ends, .ref a_z_refusals])), (a_z_now, .inr (3, [.ref a_z_now_cells, .int z_now_places, .ref a_z_now_kinds, .ref a_z_now_figures, .ref a_z_now_longings, .ref a_z_now_seas, .int z_now_hands, .int z_now_aboard, .int z_now_ship, .int z_now_day, .int z_now_rows, .int z_now_columns])), (a_z_now_seas, .inl (cI, 7, .inl z_now_seas)), (a_z_text, .inr (2, [.ref a_z_text_signs, .int z_text_size])), (a_z_refusals, .inl (cI, 7, .inl z_refusals))] H → va_S A s.heap H locs → W p l e rmX4_count s m args below meth c H locs 0 0 Q (F0 m pc ls [.int r']) := by
    intro pc H locs ls r' h hn hd hP hS
    cases h
    exact hret0 pc H locs ls hn hd hP hS
  have hl : lv_has ls 3 [(0, .ref a_z), (1, .int p0)] := hl
  have h := hf
  unfold fX4_count at h
  refine lv_iload_n hx hb dX4_count_0 rfl (lv_at hl 1 rfl) ?_
  refine lv_bipush (v := 11) hx hb dX4_count_1 (by decide) ?_
  refine lv_isub hx hb dX4_count_3 ?_
  refine lv_iconst (v := 1) hx hb dX4_count_4 (by decide) ?_
  refine lv_iadd hx hb dX4_count_5 ?_
  refine lv_istore_n (lv' := [(2, .int ((p0 - 11) + 1)), (0, .ref a_z), (1, .int p0)]) hx hb dX4_count_6 rfl hl (by decide) rfl (fun ls hl => ?_)
  refine lv_iload_n hx hb dX4_count_7 rfl (lv_at hl 2 rfl) ?_
  refine lv_bipush (v := 11) hx hb dX4_count_8 (by decide) ?_
  refine lv_icmp_lt (tgt := 29) hx hb dX4_count_10 (by decide) (fun hc24 => ?_) (fun hc24 => ?_)
  · have h := it_p hc24 h
    refine lv_iload_n hx hb dX4_count_29 rfl (lv_at hl 2 rfl) ?_
    by_cases hc25 : p0 = 0
    · have h := it_p hc25 h
      refine lv_tableIn (off := 46) (tgt := 76) hx hb dX4_count_30 (by rw [hc25]; decide) (by rw [hc25]; decide) (by rw [hc25]; rfl) (by decide) ?_
      refine lv_aload_n hx hb dX4_count_76 rfl (lv_at hl 1 rfl) ?_
      refine gt_X4_10 F iX4 (List.mem_cons_of_mem _ (List.mem_append_left _ (List.mem_append_left _ (List.mem_append_left _ (List.mem_of_getElem? (i := 1) rfl))))) hP 0 rfl dX4_count_77 ?_
      refine gt_X4_177 F iX3 (F.2.2.1.f 5 rfl) hP 1 rfl dX4_count_80 ?_
      exact hret 83 H locs ls z_now_places h rfl dX4_count_83 hP hS
    · have h := it_n hc25 h
      by_cases hc26 : p0 = 1
      · have h := it_p hc26 h
        refine lv_tableIn (off := 54) (tgt := 84) hx hb dX4_count_30 (by rw [hc26]; decide) (by rw [hc26]; decide) (by rw [hc26]; rfl) (by decide) ?_
        refine lv_aload_n hx hb dX4_count_84 rfl (lv_at hl 1 rfl) ?_
        refine gt_X4_10 F iX4 (List.mem_cons_of_mem _ (List.mem_append_left _ (List.mem_append_left _ (List.mem_append_left _ (List.mem_of_getElem? (i := 1) rfl))))) hP 0 rfl dX4_count_85 ?_
        refine gt_X4_154 F iX3 (F.2.2.1.f 2 rfl) hP 1 rfl dX4_count_88 ?_
        exact hret 91 H locs ls z_now_hands h rfl dX4_count_91 hP hS
      · have h := it_n hc26 h
        by_cases hc27 : p0 = 2
        · have h := it_p hc27 h
          refine lv_tableIn (off := 62) (tgt := 92) hx hb dX4_count_30 (by rw [hc27]; decide) (by rw [hc27]; decide) (by rw [hc27]; rfl) (by decide) ?_
          refine lv_aload_n hx hb dX4_count_92 rfl (lv_at hl 1 rfl) ?_
          refine gt_X4_10 F iX4 (List.mem_cons_of_mem _ (List.mem_append_left _ (List.mem_append_left _ (List.mem_append_left _ (List.mem_of_getElem? (i := 1) rfl))))) hP 0 rfl dX4_count_93 ?_
          refine gt_X4_253 F iX3 (F.2.2.1.f 9 rfl) hP 1 rfl dX4_count_96 ?_
          exact hret 99 H locs ls z_now_day h rfl dX4_count_99 hP hS
        · have h := it_n hc27 h
          by_cases hc28 : p0 = 3
          · have h := it_p hc28 h
            refine lv_tableIn (off := 70) (tgt := 100) hx hb dX4_count_30 (by rw [hc28]; decide) (by rw [hc28]; decide) (by rw [hc28]; rfl) (by decide) ?_
            refine lv_aload_n hx hb dX4_count_100 rfl (lv_at hl 1 rfl) ?_
            refine gt_X4_10 F iX4 (List.mem_cons_of_mem _ (List.mem_append_left _ (List.mem_append_left _ (List.mem_append_left _ (List.mem_of_getElem? (i := 1) rfl))))) hP 0 rfl dX4_count_101 ?_
            refine gt_X4_120 F iX3 (F.2.2.1.f 1 rfl) hP 1 rfl dX4_count_104 ?_
            exact hret 107 H locs ls z_now_ship h rfl dX4_count_107 hP hS
          · have h := it_n hc28 h
            by_cases hc29 : p0 = 4
            · have h := it_p hc29 h
              refine lv_tableIn (off := 78) (tgt := 108) hx hb dX4_count_30 (by rw [hc29]; decide) (by rw [hc29]; decide) (by rw [hc29]; rfl) (by decide) ?_
              refine lv_aload_n hx hb dX4_count_108 rfl (lv_at hl 1 rfl) ?_
              refine gt_X4_10 F iX4 (List.mem_cons_of_mem _ (List.mem_append_left _ (List.mem_append_left _ (List.mem_append_left _ (List.mem_of_getElem? (i := 1) rfl))))) hP 0 rfl dX4_count_109 ?_
              refine gt_X4_256 F iX3 (F.2.2.1.f 10 rfl) hP 1 rfl dX4_count_112 ?_
              exact hret 115 H locs ls z_now_aboard h rfl dX4_count_115 hP hS
            · have h := it_n hc29 h
              by_cases hc30 : p0 = 5
              · have h := it_p hc30 h
                refine lv_tableIn (off := 86) (tgt := 116) hx hb dX4_count_30 (by rw [hc30]; decide) (by rw [hc30]; decide) (by rw [hc30]; rfl) (by decide) ?_
                refine lv_aload_n hx hb dX4_count_116 rfl (lv_at hl 1 rfl) ?_
                refine gt_X4_10 F iX4 (List.mem_cons_of_mem _ (List.mem_append_left _ (List.mem_append_left _ (List.mem_append_left _ (List.mem_of_getElem? (i := 1) rfl))))) hP 0 rfl dX4_count_117 ?_
                obtain ⟨r33, hk34, h⟩ := bd1_e h
                refine cV_i (rest := []) F (kX3_seaOfAll l D cI cJ H.size g a_z_now a_z_now_cells a_z_now_kinds a_z_now_figures a_z_now_longings a_z_now_seas z_now_places z_now_hands z_now_aboard z_now_ship z_now_day z_now_rows z_now_columns z_now_seas r33 hk34) (cwV 0 hts gX4_count_X3_seaOfAll rfl rfl rfl eVX3_seaOfAll ⟨Nat.le_of_ble_eq_true rfl, Nat.le_of_ble_eq_true rfl⟩) [1, 2] hP hS (by decide) rfl rfl 0 rfl rfl rfl hl.1 (Nat.le_of_ble_eq_true rfl) ⟨Nat.le_refl _, Nat.le_refl _⟩ rfl dX4_count_120 (fun H locs hP hS => ?_)
                have hP : WD D A [(a_z, .inr (4, [.ref a_z_now, .ref a_z_thought, .ref a_z_kept, .int z_keptTaken, .ref a_z_text, .ref a_z_weather, .ref a_z_lot, .ref a_z_numbers, .int z_numberCount, .ref a_z_ends, .ref a_z_refusals])), (a_z_now, .inr (3, [.ref a_z_now_cells, .int z_now_places, .ref a_z_now_kinds, .ref a_z_now_figures, .ref a_z_now_longings, .ref a_z_now_seas, .int z_now_hands, .int z_now_aboard, .int z_now_ship, .int z_now_day, .int z_now_rows, .int z_now_columns])), (a_z_now_seas, .inl (cI, 7, .inl z_now_seas)), (a_z_text, .inr (2, [.ref a_z_text_signs, .int z_text_size])), (a_z_refusals, .inl (cI, 7, .inl z_refusals))] H := hP
                exact hret 123 H locs ls r33 h rfl dX4_count_123 hP hS
              · have h := it_n hc30 h
                by_cases hc31 : p0 = 6
                · have h := it_p hc31 h
                  refine lv_tableIn (off := 94) (tgt := 124) hx hb dX4_count_30 (by rw [hc31]; decide) (by rw [hc31]; decide) (by rw [hc31]; rfl) (by decide) ?_
                  refine lv_aload_n hx hb dX4_count_124 rfl (lv_at hl 1 rfl) ?_
                  refine gt_X4_230 F iX4 (List.mem_cons_of_mem _ (List.mem_append_left _ (List.mem_append_left _ (List.mem_append_left _ (List.mem_of_getElem? (i := 2) rfl))))) hP 0 rfl dX4_count_125 ?_
                  exact hret 128 H locs ls z_numberCount h rfl dX4_count_128 hP hS
                · have h := it_n hc31 h
                  by_cases hc32 : p0 = 7
                  · have h := it_p hc32 h
                    refine lv_tableIn (off := 99) (tgt := 129) hx hb dX4_count_30 (by rw [hc32]; decide) (by rw [hc32]; decide) (by rw [hc32]; rfl) (by decide) ?_
                    refine lv_aload_n hx hb dX4_count_129 rfl (lv_at hl 1 rfl) ?_
                    refine gt_X4_25 F iX4 (List.mem_cons_of_mem _ (List.mem_append_left _ (List.mem_append_left _ (List.mem_append_left _ (List.mem_of_getElem? (i := 3) rfl))))) hP 0 rfl dX4_count_130 ?_
                    refine gt_X4_57 F iX2 (F.2.2.1.f 11 rfl) hP 3 rfl dX4_count_133 ?_
                    exact hret 136 H locs ls z_text_size h rfl dX4_count_136 hP hS
                  · have h := it_n hc32 h
                    refine lv_tabD (tgt := 137) [0, 1, 2, 3, 4, 5, 6, 7] hx hb dX4_count_30 (by decide) (by decide) (List.forall_mem_cons.mpr ⟨lv_neT hc25 (by decide), List.forall_mem_cons.mpr ⟨lv_neT hc26 (by decide), List.forall_mem_cons.mpr ⟨lv_neT hc27 (by decide), List.forall_mem_cons.mpr ⟨lv_neT hc28 (by decide), List.forall_mem_cons.mpr ⟨lv_neT hc29 (by decide), List.forall_mem_cons.mpr ⟨lv_neT hc30 (by decide), List.forall_mem_cons.mpr ⟨lv_neT hc31 (by decide), List.forall_mem_cons.mpr ⟨lv_neT hc32 (by decide), fun _ h9 => absurd h9 List.not_mem_nil⟩⟩⟩⟩⟩⟩⟩⟩) (by decide) ?_
                    refine lv_bipush (v := (-9)) hx hb dX4_count_137 (by decide) ?_
                    exact hret 139 H locs ls (-9) h rfl dX4_count_139 hP hS
  · have h := it_n hc24 h
    refine lv_iload_n hx hb dX4_count_13 rfl (lv_at hl 0 rfl) ?_
    refine lv_aload_n hx hb dX4_count_14 rfl (lv_at hl 1 rfl) ?_
    refine gt_X4_50 F iX4 (List.mem_cons_of_mem _ (List.mem_append_left _ (List.mem_append_left _ (List.mem_append_left _ (List.mem_of_getElem? (i := 0) rfl))))) hP 0 rfl dX4_count_15 ?_
    refine r_ln F hP 4 rfl (v := 7) rfl dX4_count_18 ?_
    refine lv_icmp_ge (tgt := 29) hx hb dX4_count_19 (by decide) (fun hc35 => ?_) (fun hc35 => ?_)
    · have h := it_p hc35 h
      refine lv_iload_n hx hb dX4_count_29 rfl (lv_at hl 2 rfl) ?_
      by_cases hc36 : p0 = 0
      · have h := it_p hc36 h
        refine lv_tableIn (off := 46) (tgt := 76) hx hb dX4_count_30 (by rw [hc36]; decide) (by rw [hc36]; decide) (by rw [hc36]; rfl) (by decide) ?_
        refine lv_aload_n hx hb dX4_count_76 rfl (lv_at hl 1 rfl) ?_
        refine gt_X4_10 F iX4 (List.mem_cons_of_mem _ (List.mem_append_left _ (List.mem_append_left _ (List.mem_append_left _ (List.mem_of_getElem? (i := 1) rfl))))) hP 0 rfl dX4_count_77 ?_
        refine gt_X4_177 F iX3 (F.2.2.1.f 5 rfl) hP 1 rfl dX4_count_80 ?_
        exact hret 83 H locs ls z_now_places h rfl dX4_count_83 hP hS
      · have h := it_n hc36 h
        by_cases hc37 : p0 = 1
        · have h := it_p hc37 h
          refine lv_tableIn (off := 54) (tgt := 84) hx hb dX4_count_30 (by rw [hc37]; decide) (by rw [hc37]; decide) (by rw [hc37]; rfl) (by decide) ?_
          refine lv_aload_n hx hb dX4_count_84 rfl (lv_at hl 1 rfl) ?_
          refine gt_X4_10 F iX4 (List.mem_cons_of_mem _ (List.mem_append_left _ (List.mem_append_left _ (List.mem_append_left _ (List.mem_of_getElem? (i := 1) rfl))))) hP 0 rfl dX4_count_85 ?_
          refine gt_X4_154 F iX3 (F.2.2.1.f 2 rfl) hP 1 rfl dX4_count_88 ?_
          exact hret 91 H locs ls z_now_hands h rfl dX4_count_91 hP hS
        · have h := it_n hc37 h
          by_cases hc38 : p0 = 2
          · have h := it_p hc38 h
            refine lv_tableIn (off := 62) (tgt := 92) hx hb dX4_count_30 (by rw [hc38]; decide) (by rw [hc38]; decide) (by rw [hc38]; rfl) (by decide) ?_
            refine lv_aload_n hx hb dX4_count_92 rfl (lv_at hl 1 rfl) ?_
            refine gt_X4_10 F iX4 (List.mem_cons_of_mem _ (List.mem_append_left _ (List.mem_append_left _ (List.mem_append_left _ (List.mem_of_getElem? (i := 1) rfl))))) hP 0 rfl dX4_count_93 ?_
            refine gt_X4_253 F iX3 (F.2.2.1.f 9 rfl) hP 1 rfl dX4_count_96 ?_
            exact hret 99 H locs ls z_now_day h rfl dX4_count_99 hP hS
          · have h := it_n hc38 h
            by_cases hc39 : p0 = 3
            · have h := it_p hc39 h
              refine lv_tableIn (off := 70) (tgt := 100) hx hb dX4_count_30 (by rw [hc39]; decide) (by rw [hc39]; decide) (by rw [hc39]; rfl) (by decide) ?_
              refine lv_aload_n hx hb dX4_count_100 rfl (lv_at hl 1 rfl) ?_
              refine gt_X4_10 F iX4 (List.mem_cons_of_mem _ (List.mem_append_left _ (List.mem_append_left _ (List.mem_append_left _ (List.mem_of_getElem? (i := 1) rfl))))) hP 0 rfl dX4_count_101 ?_
              refine gt_X4_120 F iX3 (F.2.2.1.f 1 rfl) hP 1 rfl dX4_count_104 ?_
              exact hret 107 H locs ls z_now_ship h rfl dX4_count_107 hP hS
            · have h := it_n hc39 h
              by_cases hc40 : p0 = 4
              · have h := it_p hc40 h
                refine lv_tableIn (off := 78) (tgt := 108) hx hb dX4_count_30 (by rw [hc40]; decide) (by rw [hc40]; decide) (by rw [hc40]; rfl) (by decide) ?_
                refine lv_aload_n hx hb dX4_count_108 rfl (lv_at hl 1 rfl) ?_
                refine gt_X4_10 F iX4 (List.mem_cons_of_mem _ (List.mem_append_left _ (List.mem_append_left _ (List.mem_append_left _ (List.mem_of_getElem? (i := 1) rfl))))) hP 0 rfl dX4_count_109 ?_
                refine gt_X4_256 F iX3 (F.2.2.1.f 10 rfl) hP 1 rfl dX4_count_112 ?_
                exact hret 115 H locs ls z_now_aboard h rfl dX4_count_115 hP hS
              · have h := it_n hc40 h
                by_cases hc41 : p0 = 5
                · have h := it_p hc41 h
                  refine lv_tableIn (off := 86) (tgt := 116) hx hb dX4_count_30 (by rw [hc41]; decide) (by rw [hc41]; decide) (by rw [hc41]; rfl) (by decide) ?_
                  refine lv_aload_n hx hb dX4_count_116 rfl (lv_at hl 1 rfl) ?_
                  refine gt_X4_10 F iX4 (List.mem_cons_of_mem _ (List.mem_append_left _ (List.mem_append_left _ (List.mem_append_left _ (List.mem_of_getElem? (i := 1) rfl))))) hP 0 rfl dX4_count_117 ?_
                  obtain ⟨r44, hk45, h⟩ := bd1_e h
                  refine cV_i (rest := []) F (kX3_seaOfAll l D cI cJ H.size g a_z_now a_z_now_cells a_z_now_kinds a_z_now_figures a_z_now_longings a_z_now_seas z_now_places z_now_hands z_now_aboard z_now_ship z_now_day z_now_rows z_now_columns z_now_seas r44 hk45) (cwV 0 hts gX4_count_X3_seaOfAll rfl rfl rfl eVX3_seaOfAll ⟨Nat.le_of_ble_eq_true rfl, Nat.le_of_ble_eq_true rfl⟩) [1, 2] hP hS (by decide) rfl rfl 0 rfl rfl rfl hl.1 (Nat.le_of_ble_eq_true rfl) ⟨Nat.le_refl _, Nat.le_refl _⟩ rfl dX4_count_120 (fun H locs hP hS => ?_)
                  have hP : WD D A [(a_z, .inr (4, [.ref a_z_now, .ref a_z_thought, .ref a_z_kept, .int z_keptTaken, .ref a_z_text, .ref a_z_weather, .ref a_z_lot, .ref a_z_numbers, .int z_numberCount, .ref a_z_ends, .ref a_z_refusals])), (a_z_now, .inr (3, [.ref a_z_now_cells, .int z_now_places, .ref a_z_now_kinds, .ref a_z_now_figures, .ref a_z_now_longings, .ref a_z_now_seas, .int z_now_hands, .int z_now_aboard, .int z_now_ship, .int z_now_day, .int z_now_rows, .int z_now_columns])), (a_z_now_seas, .inl (cI, 7, .inl z_now_seas)), (a_z_text, .inr (2, [.ref a_z_text_signs, .int z_text_size])), (a_z_refusals, .inl (cI, 7, .inl z_refusals))] H := hP
                  exact hret 123 H locs ls r44 h rfl dX4_count_123 hP hS
                · have h := it_n hc41 h
                  by_cases hc42 : p0 = 6
                  · have h := it_p hc42 h
                    refine lv_tableIn (off := 94) (tgt := 124) hx hb dX4_count_30 (by rw [hc42]; decide) (by rw [hc42]; decide) (by rw [hc42]; rfl) (by decide) ?_
                    refine lv_aload_n hx hb dX4_count_124 rfl (lv_at hl 1 rfl) ?_
                    refine gt_X4_230 F iX4 (List.mem_cons_of_mem _ (List.mem_append_left _ (List.mem_append_left _ (List.mem_append_left _ (List.mem_of_getElem? (i := 2) rfl))))) hP 0 rfl dX4_count_125 ?_
                    exact hret 128 H locs ls z_numberCount h rfl dX4_count_128 hP hS
                  · have h := it_n hc42 h
                    by_cases hc43 : p0 = 7
                    · have h := it_p hc43 h
                      refine lv_tableIn (off := 99) (tgt := 129) hx hb dX4_count_30 (by rw [hc43]; decide) (by rw [hc43]; decide) (by rw [hc43]; rfl) (by decide) ?_
                      refine lv_aload_n hx hb dX4_count_129 rfl (lv_at hl 1 rfl) ?_
                      refine gt_X4_25 F iX4 (List.mem_cons_of_mem _ (List.mem_append_left _ (List.mem_append_left _ (List.mem_append_left _ (List.mem_of_getElem? (i := 3) rfl))))) hP 0 rfl dX4_count_130 ?_
                      refine gt_X4_57 F iX2 (F.2.2.1.f 11 rfl) hP 3 rfl dX4_count_133 ?_
                      exact hret 136 H locs ls z_text_size h rfl dX4_count_136 hP hS
                    · have h := it_n hc43 h
                      refine lv_tabD (tgt := 137) [0, 1, 2, 3, 4, 5, 6, 7] hx hb dX4_count_30 (by decide) (by decide) (List.forall_mem_cons.mpr ⟨lv_neT hc36 (by decide), List.forall_mem_cons.mpr ⟨lv_neT hc37 (by decide), List.forall_mem_cons.mpr ⟨lv_neT hc38 (by decide), List.forall_mem_cons.mpr ⟨lv_neT hc39 (by decide), List.forall_mem_cons.mpr ⟨lv_neT hc40 (by decide), List.forall_mem_cons.mpr ⟨lv_neT hc41 (by decide), List.forall_mem_cons.mpr ⟨lv_neT hc42 (by decide), List.forall_mem_cons.mpr ⟨lv_neT hc43 (by decide), fun _ h9 => absurd h9 List.not_mem_nil⟩⟩⟩⟩⟩⟩⟩⟩) (by decide) ?_
                      refine lv_bipush (v := (-9)) hx hb dX4_count_137 (by decide) ?_
                      exact hret 139 H locs ls (-9) h rfl dX4_count_139 hP hS
    · have h := it_n hc35 h
      refine lv_aload_n hx hb dX4_count_22 rfl (lv_at hl 1 rfl) ?_
      refine gt_X4_50 F iX4 (List.mem_cons_of_mem _ (List.mem_append_left _ (List.mem_append_left _ (List.mem_append_left _ (List.mem_of_getElem? (i := 0) rfl))))) hP 0 rfl dX4_count_23 ?_
      refine lv_iload_n hx hb dX4_count_26 rfl (lv_at hl 0 rfl) ?_
      obtain ⟨hg46, h⟩ := gd_e h
      refine r_ia F hP 4 rfl rfl hg46 dX4_count_27 ?_
      exact hret 28 H locs ls (z_refusals ((p0 - 11) + 1).toNatClampNeg) h rfl dX4_count_28 hP hS
theorem eSX5_isIn : yX5_isIn.cls ≠ "java/lang/invoke/MethodHandle" ∧ yX5_isIn.cls ≠ "java/lang/invoke/VarHandle" ∧ (parseMethodDescriptor yX5_isIn.desc).map (fun d => d.parameters.length) = some 3 := by decide +kernel
theorem eVX5_isIn : yX5_isIn.cls = RX5 ∧ yX5_isIn.cls ≠ "java/lang/invoke/MethodHandle" ∧ yX5_isIn.cls ≠ "java/lang/invoke/VarHandle" ∧ (parseMethodDescriptor yX5_isIn.desc).map (fun d => d.parameters.length) = some 3 := ⟨rfl, eSX5_isIn⟩
abbrev rmX5_isIn : Room := { frames := 0, cells := 0, slots := 0, locals := 0 }
def fX5_isIn (g : Nat) (p0 : Int32) (p1 : Int32) (p2 : Int32) : Option (Int32) := if p0 < p1 then (some 0) else (if p2 < p0 then (some 0) else (some 1))
set_option maxHeartbeats 4000000 in
set_option maxRecDepth 100000 in
theorem kX5_isIn (l : Launch) (D : va_G) (cI cJ : ClassId) (sz g : Nat) (p0 : Int32) (p1 : Int32) (p2 : Int32) (r : Int32) (hf : fX5_isIn g p0 p1 p2 = some r) : Met l yX5_isIn wsX5_isIn rmX5_isIn (va_Pc [.int p0, .int p1, .int p2] (sPc D (tyL cI cJ) [] sz)) (qI D (tyL cI cJ) [] sz [] r) 0 0 (va_A [] sz) := by
  refine st_i (cc := cX5_isIn) (maxL := 3) (by decide) rfl (Nat.le_of_ble_eq_true rfl) ?_
  intro p e s m args below meth c A Q F hret0 H locs hP hS ls hl
  have F : Cx p s m args c cX5_isIn 3 wsX5_isIn RX5 D (tyL cI cJ) A := F
  have hx := F.1.1
  have hb := F.1.2.1
  have hown := F.1.2.2.2.1
  have hts := F.1.2.2.2.2
  have hret : ∀ (pc : Nat) (H : Heap) (locs : List Loc) (ls : Array Slot) (r' : Int32), some r' = some r → narrow .boolean (.int r') = .int r' → decode cX5_isIn pc = .ok (.ireturn, 1) → WD D A [] H → va_S A s.heap H locs → W p l e rmX5_isIn s m args below meth c H locs 0 0 Q (F0 m pc ls [.int r']) := by
    intro pc H locs ls r' h hn hd hP hS
    cases h
    exact hret0 pc H locs ls hn hd hP hS
  have hl : lv_has ls 3 [(0, .int p0), (1, .int p1), (2, .int p2)] := hl
  have h := hf
  unfold fX5_isIn at h
  refine lv_iload_n hx hb dX5_isIn_0 rfl (lv_at hl 0 rfl) ?_
  refine lv_iload_n hx hb dX5_isIn_1 rfl (lv_at hl 1 rfl) ?_
  refine lv_icmp_lt (tgt := 14) hx hb dX5_isIn_2 (by decide) (fun hc3 => ?_) (fun hc3 => ?_)
  · have h := it_p hc3 h
    refine lv_iconst (v := 0) hx hb dX5_isIn_14 (by decide) ?_
    exact hret 15 H locs ls 0 h rfl dX5_isIn_15 hP hS
  · have h := it_n hc3 h
    refine lv_iload_n hx hb dX5_isIn_5 rfl (lv_at hl 0 rfl) ?_
    refine lv_iload_n hx hb dX5_isIn_6 rfl (lv_at hl 2 rfl) ?_
    refine lv_icmp_gt (tgt := 14) hx hb dX5_isIn_7 (by decide) (fun hc4 => ?_) (fun hc4 => ?_)
    · have h := it_p hc4 h
      refine lv_iconst (v := 0) hx hb dX5_isIn_14 (by decide) ?_
      exact hret 15 H locs ls 0 h rfl dX5_isIn_15 hP hS
    · have h := it_n hc4 h
      refine lv_iconst (v := 1) hx hb dX5_isIn_10 (by decide) ?_
      refine lv_goto (tgt := 15) hx hb dX5_isIn_11 (by decide) ?_
      exact hret 15 H locs ls 1 h rfl dX5_isIn_15 hP hS
theorem eSX5_far : yX5_far.cls ≠ "java/lang/invoke/MethodHandle" ∧ yX5_far.cls ≠ "java/lang/invoke/VarHandle" ∧ (parseMethodDescriptor yX5_far.desc).map (fun d => d.parameters.length) = some 1 := by decide +kernel
theorem eVX5_far : yX5_far.cls = RX5 ∧ yX5_far.cls ≠ "java/lang/invoke/MethodHandle" ∧ yX5_far.cls ≠ "java/lang/invoke/VarHandle" ∧ (parseMethodDescriptor yX5_far.desc).map (fun d => d.parameters.length) = some 1 := ⟨rfl, eSX5_far⟩
abbrev rmX5_far : Room := { frames := 0, cells := 0, slots := 0, locals := 0 }
def fX5_far (g : Nat) (p0 : Int32) : Option (Int32) := if 0 ≤ p0 then (some p0) else (some (-p0))
set_option maxHeartbeats 4000000 in
set_option maxRecDepth 100000 in
theorem kX5_far (l : Launch) (D : va_G) (cI cJ : ClassId) (sz g : Nat) (p0 : Int32) (r : Int32) (hf : fX5_far g p0 = some r) : Met l yX5_far wsX5_far rmX5_far (va_Pc [.int p0] (sPc D (tyL cI cJ) [] sz)) (qI D (tyL cI cJ) [] sz [] r) 0 0 (va_A [] sz) := by
  refine st_i (cc := cX5_far) (maxL := 1) (by decide) rfl (Nat.le_of_ble_eq_true rfl) ?_
  intro p e s m args below meth c A Q F hret0 H locs hP hS ls hl
  have F : Cx p s m args c cX5_far 1 wsX5_far RX5 D (tyL cI cJ) A := F
  have hx := F.1.1
  have hb := F.1.2.1
  have hown := F.1.2.2.2.1
  have hts := F.1.2.2.2.2
  have hret : ∀ (pc : Nat) (H : Heap) (locs : List Loc) (ls : Array Slot) (r' : Int32), some r' = some r → narrow .int (.int r') = .int r' → decode cX5_far pc = .ok (.ireturn, 1) → WD D A [] H → va_S A s.heap H locs → W p l e rmX5_far s m args below meth c H locs 0 0 Q (F0 m pc ls [.int r']) := by
    intro pc H locs ls r' h hn hd hP hS
    cases h
    exact hret0 pc H locs ls hn hd hP hS
  have hl : lv_has ls 1 [(0, .int p0)] := hl
  have h := hf
  unfold fX5_far at h
  refine lv_iload_n hx hb dX5_far_0 rfl (lv_at hl 0 rfl) ?_
  refine lv_if_ge (tgt := 9) hx hb dX5_far_1 (by decide) (fun hc2 => ?_) (fun hc2 => ?_)
  · have h := it_p hc2 h
    refine lv_iload_n hx hb dX5_far_9 rfl (lv_at hl 0 rfl) ?_
    exact hret 10 H locs ls p0 h rfl dX5_far_10 hP hS
  · have h := it_n hc2 h
    refine lv_iload_n hx hb dX5_far_4 rfl (lv_at hl 0 rfl) ?_
    refine lv_ineg hx hb dX5_far_5 ?_
    refine lv_goto (tgt := 10) hx hb dX5_far_6 (by decide) ?_
    exact hret 10 H locs ls (-p0) h rfl dX5_far_10 hP hS
theorem eSX5_copies : yX5_copies.cls ≠ "java/lang/invoke/MethodHandle" ∧ yX5_copies.cls ≠ "java/lang/invoke/VarHandle" ∧ (parseMethodDescriptor yX5_copies.desc).map (fun d => d.parameters.length) = some 2 := by decide +kernel
theorem eVX5_copies : yX5_copies.cls = RX5 ∧ yX5_copies.cls ≠ "java/lang/invoke/MethodHandle" ∧ yX5_copies.cls ≠ "java/lang/invoke/VarHandle" ∧ (parseMethodDescriptor yX5_copies.desc).map (fun d => d.parameters.length) = some 2 := ⟨rfl, eSX5_copies⟩
abbrev rmX5_copies : Room := { frames := 0, cells := 0, slots := 0, locals := 0 }
def fX5_copies_L2_b (g : Nat) (q0 : Nat → Int32) (self : Int32 → (Nat → Int32) → Option ((Nat → Int32))) (x2_L2 : Int32) (q1_L2 : Nat → Int32) : Option ((Nat → Int32)) := if 45 ≤ x2_L2 then (some q1_L2) else (gd (inB x2_L2 45) (gd (inB x2_L2 45) (self (x2_L2 + 1) (upd q1_L2 x2_L2.toNatClampNeg (q0 x2_L2.toNatClampNeg)))))
def fX5_copies_L2 (g : Nat) (q0 : Nat → Int32) (n : Nat) : Int32 → (Nat → Int32) → Option ((Nat → Int32)) := lp (fX5_copies_L2_b g q0) (fun _ _ => none) n
def fX5_copies (g : Nat) (q0 : Nat → Int32) (q1 : Nat → Int32) : Option ((Nat → Int32)) := bd1 (fX5_copies_L2 g q0 g 0 q1) fun t5 => (some t5)
set_option maxHeartbeats 4000000 in
set_option maxRecDepth 100000 in
theorem kX5_copies (l : Launch) (D : va_G) (cI cJ : ClassId) (sz g : Nat) (a_q0 a_q1 : Nat) (q0 : Nat → Int32) (q1 : Nat → Int32) (n_q1 : Nat → Int32) (hf : fX5_copies g q0 q1 = some n_q1) : Met l yX5_copies wsX5_copies rmX5_copies (va_Pc [.ref a_q0, .ref a_q1] (sPc D (tyL cI cJ) [(a_q0, .inl (cI, 45, .inl q0)), (a_q1, .inl (cI, 45, .inl q1))] sz)) (qV D (tyL cI cJ) [(a_q0, .inl (cI, 45, .inl q0)), (a_q1, .inl (cI, 45, .inl q1))] sz [(a_q0, .inl (cI, 45, .inl q0)), (a_q1, .inl (cI, 45, .inl n_q1))]) 0 0 (va_A [(a_q0, .inl (cI, 45, .inl q0)), (a_q1, .inl (cI, 45, .inl q1))] sz) := by
  refine st_v (cc := cX5_copies) (maxL := 3) (by decide) rfl (Nat.le_of_ble_eq_true rfl) ?_
  intro p e s m args below meth c A Q F hret0 H locs hP hS ls hl
  have F : Cx p s m args c cX5_copies 3 wsX5_copies RX5 D (tyL cI cJ) A := F
  have hx := F.1.1
  have hb := F.1.2.1
  have hown := F.1.2.2.2.1
  have hts := F.1.2.2.2.2
  have hret : ∀ (pc : Nat) (H : Heap) (locs : List Loc) (ls : Array Slot) (m_q1 : Nat → Int32), some m_q1 = some n_q1 → decode cX5_copies pc = .ok (.return_, 1) → WD D A [(a_q0, .inl (cI, 45, .inl q0)), (a_q1, .inl (cI, 45, .inl m_q1))] H → va_S A s.heap H locs → W p l e rmX5_copies s m args below meth c H locs 0 0 Q (F0 m pc ls []) := by
    intro pc H locs ls m_q1 h hd hP hS
    cases h
    exact hret0 pc H locs ls hd hP hS
  have L2 : ∀ (n : Nat) (x2_L2 : Int32) (q1_L2 : Nat → Int32) (tt0 : Nat → Int32) (H : Heap) (locs : List Loc) (ls : Array Slot), fX5_copies_L2 g q0 n x2_L2 q1_L2 = some tt0 → WD D A [(a_q0, .inl (cI, 45, .inl q0)), (a_q1, .inl (cI, 45, .inl q1_L2))] H → va_S A s.heap H locs → lv_has ls 3 [(0, .ref a_q0), (1, .ref a_q1), (2, .int x2_L2)] → (∀ (H : Heap) (locs : List Loc) (ls : Array Slot), WD D A [(a_q0, .inl (cI, 45, .inl q0)), (a_q1, .inl (cI, 45, .inl tt0))] H → va_S A s.heap H locs → lv_has ls 3 [] → W p l e rmX5_copies s m args below meth c H locs 0 0 Q (F0 m 20 ls [])) → W p l e rmX5_copies s m args below meth c H locs 0 0 Q (F0 m 2 ls []) := by
    intro n
    induction n with
    | zero =>
      intro x2_L2 q1_L2 tt0 H locs ls h
      exact (no_some h).elim
    | succ n ih =>
      intro x2_L2 q1_L2 tt0 H locs ls h hP hS hl kE
      have h : fX5_copies_L2_b g q0 (fX5_copies_L2 g q0 n) x2_L2 q1_L2 = some tt0 := h
      unfold fX5_copies_L2_b at h
      refine lv_iload_n hx hb dX5_copies_2 rfl (lv_at hl 2 rfl) ?_
      refine lv_bipush (v := 45) hx hb dX5_copies_3 (by decide) ?_
      refine lv_icmp_ge (tgt := 20) hx hb dX5_copies_5 (by decide) (fun hc2 => ?_) (fun hc2 => ?_)
      · have h := it_p hc2 h
        cases h
        exact kE H locs ls hP hS (lv_sub hl [] rfl)
      · have h := it_n hc2 h
        refine lv_aload_n hx hb dX5_copies_8 rfl (lv_at hl 1 rfl) ?_
        refine lv_iload_n hx hb dX5_copies_9 rfl (lv_at hl 2 rfl) ?_
        refine lv_aload_n hx hb dX5_copies_10 rfl (lv_at hl 0 rfl) ?_
        refine lv_iload_n hx hb dX5_copies_11 rfl (lv_at hl 2 rfl) ?_
        obtain ⟨hg3, h⟩ := gd_e h
        refine r_ia F hP 0 rfl rfl hg3 dX5_copies_12 ?_
        obtain ⟨hg4, h⟩ := gd_e h
        refine r_is F hP hS 1 rfl rfl hg4 dX5_copies_13 (fun H locs hP hS => ?_)
        have hP : WD D A [(a_q0, .inl (cI, 45, .inl q0)), (a_q1, .inl (cI, 45, .inl (upd q1_L2 x2_L2.toNatClampNeg (q0 x2_L2.toNatClampNeg))))] H := hP
        refine lv_iinc (v := x2_L2 + 1) (lv' := [(2, .int (x2_L2 + 1)), (0, .ref a_q0), (1, .ref a_q1)]) hx hb dX5_copies_14 hl (k := 2) rfl rfl (by decide) rfl (fun ls hl => ?_)
        refine lv_goto (tgt := 2) hx hb dX5_copies_17 (by decide) ?_
        exact ih (x2_L2 + 1) (upd q1_L2 x2_L2.toNatClampNeg (q0 x2_L2.toNatClampNeg)) tt0 H locs ls h hP hS (lv_sub hl [1, 2, 0] rfl) kE
  have hl : lv_has ls 3 [(0, .ref a_q0), (1, .ref a_q1)] := hl
  have h := hf
  unfold fX5_copies at h
  refine lv_iconst (v := 0) hx hb dX5_copies_0 (by decide) ?_
  refine lv_istore_n (lv' := [(2, .int 0), (0, .ref a_q0), (1, .ref a_q1)]) hx hb dX5_copies_1 rfl hl (by decide) rfl (fun ls hl => ?_)
  obtain ⟨t5, hk6, h⟩ := bd1_e h
  refine L2 g 0 q1 t5 H locs ls hk6 hP hS (lv_sub hl [1, 2, 0] rfl) (fun H locs ls hP hS hl => ?_)
  exact hret 20 H locs ls t5 h dX5_copies_20 hP hS
theorem eSX5_no : yX5_no.cls ≠ "java/lang/invoke/MethodHandle" ∧ yX5_no.cls ≠ "java/lang/invoke/VarHandle" ∧ (parseMethodDescriptor yX5_no.desc).map (fun d => d.parameters.length) = some 1 := by decide +kernel
theorem eVX5_no : yX5_no.cls = RX5 ∧ yX5_no.cls ≠ "java/lang/invoke/MethodHandle" ∧ yX5_no.cls ≠ "java/lang/invoke/VarHandle" ∧ (parseMethodDescriptor yX5_no.desc).map (fun d => d.parameters.length) = some 1 := ⟨rfl, eSX5_no⟩
abbrev rmX5_no : Room := { frames := 0, cells := 0, slots := 0, locals := 0 }
def fX5_no (g : Nat) (p0 : Int32) (z_refused : Nat → Int32) : Option (Int32 × (Nat → Int32)) := gd (inB (-p0) 7) (gd (inB (-p0) 7) (some (p0, upd z_refused (-p0).toNatClampNeg ((z_refused (-p0).toNatClampNeg) + 1))))
set_option maxHeartbeats 4000000 in
set_option maxRecDepth 100000 in
theorem kX5_no (l : Launch) (D : va_G) (cI cJ : ClassId) (sz g : Nat) (a_z a_z_s a_z_m a_z_image a_z_was a_z_letters a_z_row a_z_refused a_z_numbers : Nat) (z_hasImage : Int32) (z_letterMany : Int32) (z_rowMany : Int32) (z_reading : Int32) (z_seed : Int32) (z_refused : Nat → Int32) (p0 : Int32) (r : Int32) (n_z_refused : Nat → Int32) (hf : fX5_no g p0 z_refused = some (r, n_z_refused)) : Met l yX5_no wsX5_no rmX5_no (va_Pc [.ref a_z, .int p0] (sPc D (tyL cI cJ) [(a_z, .inr (5, [.ref a_z_s, .ref a_z_m, .ref a_z_image, .ref a_z_was, .int z_hasImage, .ref a_z_letters, .ref a_z_row, .ref a_z_refused, .int z_letterMany, .int z_rowMany, .int z_reading, .ref a_z_numbers, .int z_seed])), (a_z_refused, .inl (cI, 7, .inl z_refused))] sz)) (qI D (tyL cI cJ) [(a_z, .inr (5, [.ref a_z_s, .ref a_z_m, .ref a_z_image, .ref a_z_was, .int z_hasImage, .ref a_z_letters, .ref a_z_row, .ref a_z_refused, .int z_letterMany, .int z_rowMany, .int z_reading, .ref a_z_numbers, .int z_seed])), (a_z_refused, .inl (cI, 7, .inl z_refused))] sz [(a_z, .inr (5, [.ref a_z_s, .ref a_z_m, .ref a_z_image, .ref a_z_was, .int z_hasImage, .ref a_z_letters, .ref a_z_row, .ref a_z_refused, .int z_letterMany, .int z_rowMany, .int z_reading, .ref a_z_numbers, .int z_seed])), (a_z_refused, .inl (cI, 7, .inl n_z_refused))] r) 0 0 (va_A [(a_z, .inr (5, [.ref a_z_s, .ref a_z_m, .ref a_z_image, .ref a_z_was, .int z_hasImage, .ref a_z_letters, .ref a_z_row, .ref a_z_refused, .int z_letterMany, .int z_rowMany, .int z_reading, .ref a_z_numbers, .int z_seed])), (a_z_refused, .inl (cI, 7, .inl z_refused))] sz) := by
  refine st_i (cc := cX5_no) (maxL := 2) (by decide) rfl (Nat.le_of_ble_eq_true rfl) ?_
  intro p e s m args below meth c A Q F hret0 H locs hP hS ls hl
  have F : Cx p s m args c cX5_no 2 wsX5_no RX5 D (tyL cI cJ) A := F
  have hx := F.1.1
  have hb := F.1.2.1
  have hown := F.1.2.2.2.1
  have hts := F.1.2.2.2.2
  have iX5 : ∀ w ∈ wsX50, w ∈ wsX5_no := fun w h => (List.mem_cons_of_mem _ (List.mem_append_right _ h))
  have hret : ∀ (pc : Nat) (H : Heap) (locs : List Loc) (ls : Array Slot) (r' : Int32) (m_z_refused : Nat → Int32), some (r', m_z_refused) = some (r, n_z_refused) → narrow .int (.int r') = .int r' → decode cX5_no pc = .ok (.ireturn, 1) → WD D A [(a_z, .inr (5, [.ref a_z_s, .ref a_z_m, .ref a_z_image, .ref a_z_was, .int z_hasImage, .ref a_z_letters, .ref a_z_row, .ref a_z_refused, .int z_letterMany, .int z_rowMany, .int z_reading, .ref a_z_numbers, .int z_seed])), (a_z_refused, .inl (cI, 7, .inl m_z_refused))] H → va_S A s.heap H locs → W p l e rmX5_no s m args below meth c H locs 0 0 Q (F0 m pc ls [.int r']) := by
    intro pc H locs ls r' m_z_refused h hn hd hP hS
    cases h
    exact hret0 pc H locs ls hn hd hP hS
  have hl : lv_has ls 2 [(0, .ref a_z), (1, .int p0)] := hl
  have h := hf
  unfold fX5_no at h
  refine lv_aload_n hx hb dX5_no_0 rfl (lv_at hl 0 rfl) ?_
  refine gt_X5_28 F iX5 (List.mem_cons_of_mem _ (List.mem_append_left _ (List.mem_of_getElem? (i := 0) rfl))) hP 0 rfl dX5_no_1 ?_
  refine lv_iload_n hx hb dX5_no_4 rfl (lv_at hl 1 rfl) ?_
  refine lv_ineg hx hb dX5_no_5 ?_
  refine lv_dup2_11 hx hb dX5_no_6 rfl rfl ?_
  obtain ⟨hg3, h⟩ := gd_e h
  refine r_ia F hP 1 rfl rfl hg3 dX5_no_7 ?_
  refine lv_iconst (v := 1) hx hb dX5_no_8 (by decide) ?_
  refine lv_iadd hx hb dX5_no_9 ?_
  obtain ⟨hg4, h⟩ := gd_e h
  refine r_is F hP hS 1 rfl rfl hg4 dX5_no_10 (fun H locs hP hS => ?_)
  have hP : WD D A [(a_z, .inr (5, [.ref a_z_s, .ref a_z_m, .ref a_z_image, .ref a_z_was, .int z_hasImage, .ref a_z_letters, .ref a_z_row, .ref a_z_refused, .int z_letterMany, .int z_rowMany, .int z_reading, .ref a_z_numbers, .int z_seed])), (a_z_refused, .inl (cI, 7, .inl (upd z_refused (-p0).toNatClampNeg ((z_refused (-p0).toNatClampNeg) + 1))))] H := hP
  refine lv_iload_n hx hb dX5_no_11 rfl (lv_at hl 1 rfl) ?_
  exact hret 12 H locs ls p0 (upd z_refused (-p0).toNatClampNeg ((z_refused (-p0).toNatClampNeg) + 1)) h rfl dX5_no_12 hP hS
theorem eSX5_noFar : yX5_noFar.cls ≠ "java/lang/invoke/MethodHandle" ∧ yX5_noFar.cls ≠ "java/lang/invoke/VarHandle" ∧ (parseMethodDescriptor yX5_noFar.desc).map (fun d => d.parameters.length) = some 1 := by decide +kernel
theorem eVX5_noFar : yX5_noFar.cls = RX5 ∧ yX5_noFar.cls ≠ "java/lang/invoke/MethodHandle" ∧ yX5_noFar.cls ≠ "java/lang/invoke/VarHandle" ∧ (parseMethodDescriptor yX5_noFar.desc).map (fun d => d.parameters.length) = some 1 := ⟨rfl, eSX5_noFar⟩
abbrev rmX5_noFar : Room := { frames := 1, cells := 0, slots := 0, locals := 21 }
def fX5_noFar (g : Nat) (p0 : Int32) (z_refused : Nat → Int32) : Option (Int32 × (Nat → Int32)) := bd2 (fX5_no g p0 z_refused) fun r4 z_refused_5 => (some (1000000000 - r4, z_refused_5))
set_option maxHeartbeats 4000000 in
set_option maxRecDepth 100000 in
theorem kX5_noFar (l : Launch) (D : va_G) (cI cJ : ClassId) (sz g : Nat) (a_z a_z_s a_z_m a_z_image a_z_was a_z_letters a_z_row a_z_refused a_z_numbers : Nat) (z_hasImage : Int32) (z_letterMany : Int32) (z_rowMany : Int32) (z_reading : Int32) (z_seed : Int32) (z_refused : Nat → Int32) (p0 : Int32) (r : Int32) (n_z_refused : Nat → Int32) (hf : fX5_noFar g p0 z_refused = some (r, n_z_refused)) : Met l yX5_noFar wsX5_noFar rmX5_noFar (va_Pc [.ref a_z, .int p0] (sPc D (tyL cI cJ) [(a_z, .inr (5, [.ref a_z_s, .ref a_z_m, .ref a_z_image, .ref a_z_was, .int z_hasImage, .ref a_z_letters, .ref a_z_row, .ref a_z_refused, .int z_letterMany, .int z_rowMany, .int z_reading, .ref a_z_numbers, .int z_seed])), (a_z_refused, .inl (cI, 7, .inl z_refused))] sz)) (qI D (tyL cI cJ) [(a_z, .inr (5, [.ref a_z_s, .ref a_z_m, .ref a_z_image, .ref a_z_was, .int z_hasImage, .ref a_z_letters, .ref a_z_row, .ref a_z_refused, .int z_letterMany, .int z_rowMany, .int z_reading, .ref a_z_numbers, .int z_seed])), (a_z_refused, .inl (cI, 7, .inl z_refused))] sz [(a_z, .inr (5, [.ref a_z_s, .ref a_z_m, .ref a_z_image, .ref a_z_was, .int z_hasImage, .ref a_z_letters, .ref a_z_row, .ref a_z_refused, .int z_letterMany, .int z_rowMany, .int z_reading, .ref a_z_numbers, .int z_seed])), (a_z_refused, .inl (cI, 7, .inl n_z_refused))] r) 0 0 (va_A [(a_z, .inr (5, [.ref a_z_s, .ref a_z_m, .ref a_z_image, .ref a_z_was, .int z_hasImage, .ref a_z_letters, .ref a_z_row, .ref a_z_refused, .int z_letterMany, .int z_rowMany, .int z_reading, .ref a_z_numbers, .int z_seed])), (a_z_refused, .inl (cI, 7, .inl z_refused))] sz) := by
  refine st_i (cc := cX5_noFar) (maxL := 2) (by decide) rfl (Nat.le_of_ble_eq_true rfl) ?_
  intro p e s m args below meth c A Q F hret0 H locs hP hS ls hl
  have F : Cx p s m args c cX5_noFar 2 wsX5_noFar RX5 D (tyL cI cJ) A := F
  have hx := F.1.1
  have hb := F.1.2.1
  have hown := F.1.2.2.2.1
  have hts := F.1.2.2.2.2
  have hret : ∀ (pc : Nat) (H : Heap) (locs : List Loc) (ls : Array Slot) (r' : Int32) (m_z_refused : Nat → Int32), some (r', m_z_refused) = some (r, n_z_refused) → narrow .int (.int r') = .int r' → decode cX5_noFar pc = .ok (.ireturn, 1) → WD D A [(a_z, .inr (5, [.ref a_z_s, .ref a_z_m, .ref a_z_image, .ref a_z_was, .int z_hasImage, .ref a_z_letters, .ref a_z_row, .ref a_z_refused, .int z_letterMany, .int z_rowMany, .int z_reading, .ref a_z_numbers, .int z_seed])), (a_z_refused, .inl (cI, 7, .inl m_z_refused))] H → va_S A s.heap H locs → W p l e rmX5_noFar s m args below meth c H locs 0 0 Q (F0 m pc ls [.int r']) := by
    intro pc H locs ls r' m_z_refused h hn hd hP hS
    cases h
    exact hret0 pc H locs ls hn hd hP hS
  have hl : lv_has ls 2 [(0, .ref a_z), (1, .int p0)] := hl
  have h := hf
  unfold fX5_noFar at h
  refine lv_ldc (v := 1000000000) hx hb hown (hts _ (List.mem_cons_of_mem _ (List.mem_append_left _ (List.mem_of_getElem? (i := 0) rfl)))) dX5_noFar_0 ?_
  refine lv_aload_n hx hb dX5_noFar_2 rfl (lv_at hl 0 rfl) ?_
  refine lv_iload_n hx hb dX5_noFar_3 rfl (lv_at hl 1 rfl) ?_
  obtain ⟨r4, z_refused_5, hk6, h⟩ := bd2_e h
  refine cV_i (rest := [.int 1000000000]) F (kX5_no l D cI cJ H.size g a_z a_z_s a_z_m a_z_image a_z_was a_z_letters a_z_row a_z_refused a_z_numbers z_hasImage z_letterMany z_rowMany z_reading z_seed z_refused p0 r4 z_refused_5 hk6) (cwV 1 hts gX5_noFar_X5_no rfl rfl rfl eVX5_no ⟨Nat.le_of_ble_eq_true rfl, Nat.le_of_ble_eq_true rfl⟩) [0, 1] hP hS (by decide) rfl rfl 0 rfl rfl rfl hl.1 (Nat.le_of_ble_eq_true rfl) ⟨Nat.le_refl _, Nat.le_refl _⟩ rfl dX5_noFar_4 (fun H locs hP hS => ?_)
  have hP : WD D A [(a_z, .inr (5, [.ref a_z_s, .ref a_z_m, .ref a_z_image, .ref a_z_was, .int z_hasImage, .ref a_z_letters, .ref a_z_row, .ref a_z_refused, .int z_letterMany, .int z_rowMany, .int z_reading, .ref a_z_numbers, .int z_seed])), (a_z_refused, .inl (cI, 7, .inl z_refused_5))] H := hP
  refine lv_isub hx hb dX5_noFar_7 ?_
  exact hret 8 H locs ls (1000000000 - r4) z_refused_5 h rfl dX5_noFar_8 hP hS
theorem eSX5_noWide : yX5_noWide.cls ≠ "java/lang/invoke/MethodHandle" ∧ yX5_noWide.cls ≠ "java/lang/invoke/VarHandle" ∧ (parseMethodDescriptor yX5_noWide.desc).map (fun d => d.parameters.length) = some 1 := by decide +kernel
theorem eVX5_noWide : yX5_noWide.cls = RX5 ∧ yX5_noWide.cls ≠ "java/lang/invoke/MethodHandle" ∧ yX5_noWide.cls ≠ "java/lang/invoke/VarHandle" ∧ (parseMethodDescriptor yX5_noWide.desc).map (fun d => d.parameters.length) = some 1 := ⟨rfl, eSX5_noWide⟩
abbrev rmX5_noWide : Room := { frames := 1, cells := 0, slots := 0, locals := 21 }
def fX5_noWide (g : Nat) (p0 : Int32) (z_refused : Nat → Int32) : Option (Int64 × (Nat → Int32)) := bd2 (fX5_no g p0 z_refused) fun r4 z_refused_5 => (some (4000000000000000000 - r4.toInt64, z_refused_5))
set_option maxHeartbeats 4000000 in
set_option maxRecDepth 100000 in
theorem kX5_noWide (l : Launch) (D : va_G) (cI cJ : ClassId) (sz g : Nat) (a_z a_z_s a_z_m a_z_image a_z_was a_z_letters a_z_row a_z_refused a_z_numbers : Nat) (z_hasImage : Int32) (z_letterMany : Int32) (z_rowMany : Int32) (z_reading : Int32) (z_seed : Int32) (z_refused : Nat → Int32) (p0 : Int32) (r : Int64) (n_z_refused : Nat → Int32) (hf : fX5_noWide g p0 z_refused = some (r, n_z_refused)) : Met l yX5_noWide wsX5_noWide rmX5_noWide (va_Pc [.ref a_z, .int p0] (sPc D (tyL cI cJ) [(a_z, .inr (5, [.ref a_z_s, .ref a_z_m, .ref a_z_image, .ref a_z_was, .int z_hasImage, .ref a_z_letters, .ref a_z_row, .ref a_z_refused, .int z_letterMany, .int z_rowMany, .int z_reading, .ref a_z_numbers, .int z_seed])), (a_z_refused, .inl (cI, 7, .inl z_refused))] sz)) (qL D (tyL cI cJ) [(a_z, .inr (5, [.ref a_z_s, .ref a_z_m, .ref a_z_image, .ref a_z_was, .int z_hasImage, .ref a_z_letters, .ref a_z_row, .ref a_z_refused, .int z_letterMany, .int z_rowMany, .int z_reading, .ref a_z_numbers, .int z_seed])), (a_z_refused, .inl (cI, 7, .inl z_refused))] sz [(a_z, .inr (5, [.ref a_z_s, .ref a_z_m, .ref a_z_image, .ref a_z_was, .int z_hasImage, .ref a_z_letters, .ref a_z_row, .ref a_z_refused, .int z_letterMany, .int z_rowMany, .int z_reading, .ref a_z_numbers, .int z_seed])), (a_z_refused, .inl (cI, 7, .inl n_z_refused))] r) 0 0 (va_A [(a_z, .inr (5, [.ref a_z_s, .ref a_z_m, .ref a_z_image, .ref a_z_was, .int z_hasImage, .ref a_z_letters, .ref a_z_row, .ref a_z_refused, .int z_letterMany, .int z_rowMany, .int z_reading, .ref a_z_numbers, .int z_seed])), (a_z_refused, .inl (cI, 7, .inl z_refused))] sz) := by
  refine st_l (cc := cX5_noWide) (maxL := 2) (by decide) rfl (Nat.le_of_ble_eq_true rfl) ?_
  intro p e s m args below meth c A Q F hret0 H locs hP hS ls hl
  have F : Cx p s m args c cX5_noWide 2 wsX5_noWide RX5 D (tyL cI cJ) A := F
  have hx := F.1.1
  have hb := F.1.2.1
  have hown := F.1.2.2.2.1
  have hts := F.1.2.2.2.2
  have hret : ∀ (pc : Nat) (H : Heap) (locs : List Loc) (ls : Array Slot) (r' : Int64) (m_z_refused : Nat → Int32), some (r', m_z_refused) = some (r, n_z_refused) → decode cX5_noWide pc = .ok (.lreturn, 1) → WD D A [(a_z, .inr (5, [.ref a_z_s, .ref a_z_m, .ref a_z_image, .ref a_z_was, .int z_hasImage, .ref a_z_letters, .ref a_z_row, .ref a_z_refused, .int z_letterMany, .int z_rowMany, .int z_reading, .ref a_z_numbers, .int z_seed])), (a_z_refused, .inl (cI, 7, .inl m_z_refused))] H → va_S A s.heap H locs → W p l e rmX5_noWide s m args below meth c H locs 0 0 Q (F0 m pc ls [.long r']) := by
    intro pc H locs ls r' m_z_refused h hd hP hS
    cases h
    exact hret0 pc H locs ls hd hP hS
  have hl : lv_has ls 2 [(0, .ref a_z), (1, .int p0)] := hl
  have h := hf
  unfold fX5_noWide at h
  refine lv_ldc2 (v := 4000000000000000000) hx hb hown (hts _ (List.mem_cons_of_mem _ (List.mem_append_left _ (List.mem_of_getElem? (i := 0) rfl)))) dX5_noWide_0 ?_
  refine lv_aload_n hx hb dX5_noWide_3 rfl (lv_at hl 0 rfl) ?_
  refine lv_iload_n hx hb dX5_noWide_4 rfl (lv_at hl 1 rfl) ?_
  obtain ⟨r4, z_refused_5, hk6, h⟩ := bd2_e h
  refine cV_i (rest := [.long 4000000000000000000]) F (kX5_no l D cI cJ H.size g a_z a_z_s a_z_m a_z_image a_z_was a_z_letters a_z_row a_z_refused a_z_numbers z_hasImage z_letterMany z_rowMany z_reading z_seed z_refused p0 r4 z_refused_5 hk6) (cwV 1 hts gX5_noWide_X5_no rfl rfl rfl eVX5_no ⟨Nat.le_of_ble_eq_true rfl, Nat.le_of_ble_eq_true rfl⟩) [0, 1] hP hS (by decide) rfl rfl 0 rfl rfl rfl hl.1 (Nat.le_of_ble_eq_true rfl) ⟨Nat.le_refl _, Nat.le_refl _⟩ rfl dX5_noWide_5 (fun H locs hP hS => ?_)
  have hP : WD D A [(a_z, .inr (5, [.ref a_z_s, .ref a_z_m, .ref a_z_image, .ref a_z_was, .int z_hasImage, .ref a_z_letters, .ref a_z_row, .ref a_z_refused, .int z_letterMany, .int z_rowMany, .int z_reading, .ref a_z_numbers, .int z_seed])), (a_z_refused, .inl (cI, 7, .inl z_refused_5))] H := hP
  refine lv_i2l (v := r4.toInt64) hx hb dX5_noWide_8 rfl ?_
  refine lv_lsub hx hb dX5_noWide_9 ?_
  exact hret 10 H locs ls (4000000000000000000 - r4.toInt64) z_refused_5 h dX5_noWide_10 hP hS
theorem eSX5_of : yX5_of.cls ≠ "java/lang/invoke/MethodHandle" ∧ yX5_of.cls ≠ "java/lang/invoke/VarHandle" ∧ (parseMethodDescriptor yX5_of.desc).map (fun d => d.parameters.length) = some 2 := by decide +kernel
theorem eVX5_of : yX5_of.cls = RX5 ∧ yX5_of.cls ≠ "java/lang/invoke/MethodHandle" ∧ yX5_of.cls ≠ "java/lang/invoke/VarHandle" ∧ (parseMethodDescriptor yX5_of.desc).map (fun d => d.parameters.length) = some 2 := ⟨rfl, eSX5_of⟩
abbrev rmX5_of : Room := { frames := 0, cells := 0, slots := 0, locals := 0 }
def fX5_of (g : Nat) (p0 : Int32) (p1 : Int32) : Option (Int32) := some ((10 + (5 * p0)) + p1)
set_option maxHeartbeats 4000000 in
set_option maxRecDepth 100000 in
theorem kX5_of (l : Launch) (D : va_G) (cI cJ : ClassId) (sz g : Nat) (p0 : Int32) (p1 : Int32) (r : Int32) (hf : fX5_of g p0 p1 = some r) : Met l yX5_of wsX5_of rmX5_of (va_Pc [.int p0, .int p1] (sPc D (tyL cI cJ) [] sz)) (qI D (tyL cI cJ) [] sz [] r) 0 0 (va_A [] sz) := by
  refine st_i (cc := cX5_of) (maxL := 2) (by decide) rfl (Nat.le_of_ble_eq_true rfl) ?_
  intro p e s m args below meth c A Q F hret0 H locs hP hS ls hl
  have F : Cx p s m args c cX5_of 2 wsX5_of RX5 D (tyL cI cJ) A := F
  have hx := F.1.1
  have hb := F.1.2.1
  have hown := F.1.2.2.2.1
  have hts := F.1.2.2.2.2
  have hret : ∀ (pc : Nat) (H : Heap) (locs : List Loc) (ls : Array Slot) (r' : Int32), some r' = some r → narrow .int (.int r') = .int r' → decode cX5_of pc = .ok (.ireturn, 1) → WD D A [] H → va_S A s.heap H locs → W p l e rmX5_of s m args below meth c H locs 0 0 Q (F0 m pc ls [.int r']) := by
    intro pc H locs ls r' h hn hd hP hS
    cases h
    exact hret0 pc H locs ls hn hd hP hS
  have hl : lv_has ls 2 [(0, .int p0), (1, .int p1)] := hl
  have h := hf
  unfold fX5_of at h
  refine lv_bipush (v := 10) hx hb dX5_of_0 (by decide) ?_
  refine lv_iconst (v := 5) hx hb dX5_of_2 (by decide) ?_
  refine lv_iload_n hx hb dX5_of_3 rfl (lv_at hl 0 rfl) ?_
  refine lv_imul hx hb dX5_of_4 ?_
  refine lv_iadd hx hb dX5_of_5 ?_
  refine lv_iload_n hx hb dX5_of_6 rfl (lv_at hl 1 rfl) ?_
  refine lv_iadd hx hb dX5_of_7 ?_
  exact hret 8 H locs ls ((10 + (5 * p0)) + p1) h rfl dX5_of_8 hP hS
theorem eSX5_isPlace : yX5_isPlace.cls ≠ "java/lang/invoke/MethodHandle" ∧ yX5_isPlace.cls ≠ "java/lang/invoke/VarHandle" ∧ (parseMethodDescriptor yX5_isPlace.desc).map (fun d => d.parameters.length) = some 1 := by decide +kernel
theorem eVX5_isPlace : yX5_isPlace.cls = RX5 ∧ yX5_isPlace.cls ≠ "java/lang/invoke/MethodHandle" ∧ yX5_isPlace.cls ≠ "java/lang/invoke/VarHandle" ∧ (parseMethodDescriptor yX5_isPlace.desc).map (fun d => d.parameters.length) = some 1 := ⟨rfl, eSX5_isPlace⟩
abbrev rmX5_isPlace : Room := { frames := 1, cells := 0, slots := 0, locals := 22 }
def fX5_isPlace (g : Nat) (p0 : Int32) (z_s : Nat → Int32) : Option (Int32) := bd1 (fX5_isIn g p0 0 ((z_s 0) - 1)) fun r4 => (gd (r4 = 0 ∨ r4 = 1) (some r4))
set_option maxHeartbeats 4000000 in
set_option maxRecDepth 100000 in
theorem kX5_isPlace (l : Launch) (D : va_G) (cI cJ : ClassId) (sz g : Nat) (a_z a_z_s a_z_m a_z_image a_z_was a_z_letters a_z_row a_z_refused a_z_numbers : Nat) (z_hasImage : Int32) (z_letterMany : Int32) (z_rowMany : Int32) (z_reading : Int32) (z_seed : Int32) (z_s : Nat → Int32) (p0 : Int32) (r : Int32) (hf : fX5_isPlace g p0 z_s = some r) : Met l yX5_isPlace wsX5_isPlace rmX5_isPlace (va_Pc [.ref a_z, .int p0] (sPc D (tyL cI cJ) [(a_z, .inr (5, [.ref a_z_s, .ref a_z_m, .ref a_z_image, .ref a_z_was, .int z_hasImage, .ref a_z_letters, .ref a_z_row, .ref a_z_refused, .int z_letterMany, .int z_rowMany, .int z_reading, .ref a_z_numbers, .int z_seed])), (a_z_s, .inl (cI, 45, .inl z_s))] sz)) (qI D (tyL cI cJ) [(a_z, .inr (5, [.ref a_z_s, .ref a_z_m, .ref a_z_image, .ref a_z_was, .int z_hasImage, .ref a_z_letters, .ref a_z_row, .ref a_z_refused, .int z_letterMany, .int z_rowMany, .int z_reading, .ref a_z_numbers, .int z_seed])), (a_z_s, .inl (cI, 45, .inl z_s))] sz [(a_z, .inr (5, [.ref a_z_s, .ref a_z_m, .ref a_z_image, .ref a_z_was, .int z_hasImage, .ref a_z_letters, .ref a_z_row, .ref a_z_refused, .int z_letterMany, .int z_rowMany, .int z_reading, .ref a_z_numbers, .int z_seed])), (a_z_s, .inl (cI, 45, .inl z_s))] r) 0 0 (va_A [(a_z, .inr (5, [.ref a_z_s, .ref a_z_m, .ref a_z_image, .ref a_z_was, .int z_hasImage, .ref a_z_letters, .ref a_z_row, .ref a_z_refused, .int z_letterMany, .int z_rowMany, .int z_reading, .ref a_z_numbers, .int z_seed])), (a_z_s, .inl (cI, 45, .inl z_s))] sz) := by
  refine st_i (cc := cX5_isPlace) (maxL := 2) (by decide) rfl (Nat.le_of_ble_eq_true rfl) ?_
  intro p e s m args below meth c A Q F hret0 H locs hP hS ls hl
  have F : Cx p s m args c cX5_isPlace 2 wsX5_isPlace RX5 D (tyL cI cJ) A := F
  have hx := F.1.1
  have hb := F.1.2.1
  have hown := F.1.2.2.2.1
  have hts := F.1.2.2.2.2
  have iX5 : ∀ w ∈ wsX50, w ∈ wsX5_isPlace := fun w h => (List.mem_cons_of_mem _ (List.mem_append_right _ h))
  have hret : ∀ (pc : Nat) (H : Heap) (locs : List Loc) (ls : Array Slot) (r' : Int32), some r' = some r → narrow .boolean (.int r') = .int r' → decode cX5_isPlace pc = .ok (.ireturn, 1) → WD D A [(a_z, .inr (5, [.ref a_z_s, .ref a_z_m, .ref a_z_image, .ref a_z_was, .int z_hasImage, .ref a_z_letters, .ref a_z_row, .ref a_z_refused, .int z_letterMany, .int z_rowMany, .int z_reading, .ref a_z_numbers, .int z_seed])), (a_z_s, .inl (cI, 45, .inl z_s))] H → va_S A s.heap H locs → W p l e rmX5_isPlace s m args below meth c H locs 0 0 Q (F0 m pc ls [.int r']) := by
    intro pc H locs ls r' h hn hd hP hS
    cases h
    exact hret0 pc H locs ls hn hd hP hS
  have hl : lv_has ls 2 [(0, .ref a_z), (1, .int p0)] := hl
  have h := hf
  unfold fX5_isPlace at h
  refine lv_iload_n hx hb dX5_isPlace_0 rfl (lv_at hl 1 rfl) ?_
  refine lv_iconst (v := 0) hx hb dX5_isPlace_1 (by decide) ?_
  refine lv_aload_n hx hb dX5_isPlace_2 rfl (lv_at hl 0 rfl) ?_
  refine gt_X5_9 F iX5 (List.mem_cons_of_mem _ (List.mem_append_left _ (List.mem_of_getElem? (i := 0) rfl))) hP 0 rfl dX5_isPlace_3 ?_
  refine lv_iconst (v := 0) hx hb dX5_isPlace_6 (by decide) ?_
  refine r_ia F hP 1 rfl (j := 0) rfl (by decide) dX5_isPlace_7 ?_
  refine lv_iconst (v := 1) hx hb dX5_isPlace_8 (by decide) ?_
  refine lv_isub hx hb dX5_isPlace_9 ?_
  obtain ⟨r4, hk5, h⟩ := bd1_e h
  refine cS_i (rest := []) F (kX5_isIn l D cI cJ H.size g p0 0 ((z_s 0) - 1) r4 hk5) (va_cwS 3 hts gX5_isPlace_X5_isIn rfl rfl rfl eSX5_isIn ⟨Nat.le_of_ble_eq_true rfl, Nat.le_of_ble_eq_true rfl⟩) [] hP hS (by decide) rfl rfl rfl hl.1 (Nat.le_of_ble_eq_true rfl) ⟨Nat.le_refl _, Nat.le_refl _⟩ rfl dX5_isPlace_10 (fun H locs hP hS => ?_)
  have hP : WD D A [(a_z, .inr (5, [.ref a_z_s, .ref a_z_m, .ref a_z_image, .ref a_z_was, .int z_hasImage, .ref a_z_letters, .ref a_z_row, .ref a_z_refused, .int z_letterMany, .int z_rowMany, .int z_reading, .ref a_z_numbers, .int z_seed])), (a_z_s, .inl (cI, 45, .inl z_s))] H := hP
  obtain ⟨hg6, h⟩ := gd_e h
  exact hret 13 H locs ls r4 h (nb_ok hg6) dX5_isPlace_13 hP hS
theorem eSX5_isHand : yX5_isHand.cls ≠ "java/lang/invoke/MethodHandle" ∧ yX5_isHand.cls ≠ "java/lang/invoke/VarHandle" ∧ (parseMethodDescriptor yX5_isHand.desc).map (fun d => d.parameters.length) = some 1 := by decide +kernel
theorem eVX5_isHand : yX5_isHand.cls = RX5 ∧ yX5_isHand.cls ≠ "java/lang/invoke/MethodHandle" ∧ yX5_isHand.cls ≠ "java/lang/invoke/VarHandle" ∧ (parseMethodDescriptor yX5_isHand.desc).map (fun d => d.parameters.length) = some 1 := ⟨rfl, eSX5_isHand⟩
abbrev rmX5_isHand : Room := { frames := 1, cells := 0, slots := 0, locals := 22 }
def fX5_isHand (g : Nat) (p0 : Int32) (z_s : Nat → Int32) : Option (Int32) := bd1 (fX5_isIn g p0 0 ((z_s 1) - 1)) fun r4 => (gd (r4 = 0 ∨ r4 = 1) (some r4))
set_option maxHeartbeats 4000000 in
set_option maxRecDepth 100000 in
theorem kX5_isHand (l : Launch) (D : va_G) (cI cJ : ClassId) (sz g : Nat) (a_z a_z_s a_z_m a_z_image a_z_was a_z_letters a_z_row a_z_refused a_z_numbers : Nat) (z_hasImage : Int32) (z_letterMany : Int32) (z_rowMany : Int32) (z_reading : Int32) (z_seed : Int32) (z_s : Nat → Int32) (p0 : Int32) (r : Int32) (hf : fX5_isHand g p0 z_s = some r) : Met l yX5_isHand wsX5_isHand rmX5_isHand (va_Pc [.ref a_z, .int p0] (sPc D (tyL cI cJ) [(a_z, .inr (5, [.ref a_z_s, .ref a_z_m, .ref a_z_image, .ref a_z_was, .int z_hasImage, .ref a_z_letters, .ref a_z_row, .ref a_z_refused, .int z_letterMany, .int z_rowMany, .int z_reading, .ref a_z_numbers, .int z_seed])), (a_z_s, .inl (cI, 45, .inl z_s))] sz)) (qI D (tyL cI cJ) [(a_z, .inr (5, [.ref a_z_s, .ref a_z_m, .ref a_z_image, .ref a_z_was, .int z_hasImage, .ref a_z_letters, .ref a_z_row, .ref a_z_refused, .int z_letterMany, .int z_rowMany, .int z_reading, .ref a_z_numbers, .int z_seed])), (a_z_s, .inl (cI, 45, .inl z_s))] sz [(a_z, .inr (5, [.ref a_z_s, .ref a_z_m, .ref a_z_image, .ref a_z_was, .int z_hasImage, .ref a_z_letters, .ref a_z_row, .ref a_z_refused, .int z_letterMany, .int z_rowMany, .int z_reading, .ref a_z_numbers, .int z_seed])), (a_z_s, .inl (cI, 45, .inl z_s))] r) 0 0 (va_A [(a_z, .inr (5, [.ref a_z_s, .ref a_z_m, .ref a_z_image, .ref a_z_was, .int z_hasImage, .ref a_z_letters, .ref a_z_row, .ref a_z_refused, .int z_letterMany, .int z_rowMany, .int z_reading, .ref a_z_numbers, .int z_seed])), (a_z_s, .inl (cI, 45, .inl z_s))] sz) := by
  refine st_i (cc := cX5_isHand) (maxL := 2) (by decide) rfl (Nat.le_of_ble_eq_true rfl) ?_
  intro p e s m args below meth c A Q F hret0 H locs hP hS ls hl
  have F : Cx p s m args c cX5_isHand 2 wsX5_isHand RX5 D (tyL cI cJ) A := F
  have hx := F.1.1
  have hb := F.1.2.1
  have hown := F.1.2.2.2.1
  have hts := F.1.2.2.2.2
  have iX5 : ∀ w ∈ wsX50, w ∈ wsX5_isHand := fun w h => (List.mem_cons_of_mem _ (List.mem_append_right _ h))
  have hret : ∀ (pc : Nat) (H : Heap) (locs : List Loc) (ls : Array Slot) (r' : Int32), some r' = some r → narrow .boolean (.int r') = .int r' → decode cX5_isHand pc = .ok (.ireturn, 1) → WD D A [(a_z, .inr (5, [.ref a_z_s, .ref a_z_m, .ref a_z_image, .ref a_z_was, .int z_hasImage, .ref a_z_letters, .ref a_z_row, .ref a_z_refused, .int z_letterMany, .int z_rowMany, .int z_reading, .ref a_z_numbers, .int z_seed])), (a_z_s, .inl (cI, 45, .inl z_s))] H → va_S A s.heap H locs → W p l e rmX5_isHand s m args below meth c H locs 0 0 Q (F0 m pc ls [.int r']) := by
    intro pc H locs ls r' h hn hd hP hS
    cases h
    exact hret0 pc H locs ls hn hd hP hS
  have hl : lv_has ls 2 [(0, .ref a_z), (1, .int p0)] := hl
  have h := hf
  unfold fX5_isHand at h
  refine lv_iload_n hx hb dX5_isHand_0 rfl (lv_at hl 1 rfl) ?_
  refine lv_iconst (v := 0) hx hb dX5_isHand_1 (by decide) ?_
  refine lv_aload_n hx hb dX5_isHand_2 rfl (lv_at hl 0 rfl) ?_
  refine gt_X5_9 F iX5 (List.mem_cons_of_mem _ (List.mem_append_left _ (List.mem_of_getElem? (i := 0) rfl))) hP 0 rfl dX5_isHand_3 ?_
  refine lv_iconst (v := 1) hx hb dX5_isHand_6 (by decide) ?_
  refine r_ia F hP 1 rfl (j := 1) rfl (by decide) dX5_isHand_7 ?_
  refine lv_iconst (v := 1) hx hb dX5_isHand_8 (by decide) ?_
  refine lv_isub hx hb dX5_isHand_9 ?_
  obtain ⟨r4, hk5, h⟩ := bd1_e h
  refine cS_i (rest := []) F (kX5_isIn l D cI cJ H.size g p0 0 ((z_s 1) - 1) r4 hk5) (va_cwS 3 hts gX5_isHand_X5_isIn rfl rfl rfl eSX5_isIn ⟨Nat.le_of_ble_eq_true rfl, Nat.le_of_ble_eq_true rfl⟩) [] hP hS (by decide) rfl rfl rfl hl.1 (Nat.le_of_ble_eq_true rfl) ⟨Nat.le_refl _, Nat.le_refl _⟩ rfl dX5_isHand_10 (fun H locs hP hS => ?_)
  have hP : WD D A [(a_z, .inr (5, [.ref a_z_s, .ref a_z_m, .ref a_z_image, .ref a_z_was, .int z_hasImage, .ref a_z_letters, .ref a_z_row, .ref a_z_refused, .int z_letterMany, .int z_rowMany, .int z_reading, .ref a_z_numbers, .int z_seed])), (a_z_s, .inl (cI, 45, .inl z_s))] H := hP
  obtain ⟨hg6, h⟩ := gd_e h
  exact hret 13 H locs ls r4 h (nb_ok hg6) dX5_isHand_13 hP hS
theorem eSX5_isCell : yX5_isCell.cls ≠ "java/lang/invoke/MethodHandle" ∧ yX5_isCell.cls ≠ "java/lang/invoke/VarHandle" ∧ (parseMethodDescriptor yX5_isCell.desc).map (fun d => d.parameters.length) = some 1 := by decide +kernel
theorem eVX5_isCell : yX5_isCell.cls = RX5 ∧ yX5_isCell.cls ≠ "java/lang/invoke/MethodHandle" ∧ yX5_isCell.cls ≠ "java/lang/invoke/VarHandle" ∧ (parseMethodDescriptor yX5_isCell.desc).map (fun d => d.parameters.length) = some 1 := ⟨rfl, eSX5_isCell⟩
abbrev rmX5_isCell : Room := { frames := 1, cells := 0, slots := 0, locals := 22 }
def fX5_isCell (g : Nat) (p0 : Int32) : Option (Int32) := bd1 (fX5_isIn g p0 0 63) fun r4 => (gd (r4 = 0 ∨ r4 = 1) (some r4))
set_option maxHeartbeats 4000000 in
set_option maxRecDepth 100000 in
theorem kX5_isCell (l : Launch) (D : va_G) (cI cJ : ClassId) (sz g : Nat) (p0 : Int32) (r : Int32) (hf : fX5_isCell g p0 = some r) : Met l yX5_isCell wsX5_isCell rmX5_isCell (va_Pc [.int p0] (sPc D (tyL cI cJ) [] sz)) (qI D (tyL cI cJ) [] sz [] r) 0 0 (va_A [] sz) := by
  refine st_i (cc := cX5_isCell) (maxL := 1) (by decide) rfl (Nat.le_of_ble_eq_true rfl) ?_
  intro p e s m args below meth c A Q F hret0 H locs hP hS ls hl
  have F : Cx p s m args c cX5_isCell 1 wsX5_isCell RX5 D (tyL cI cJ) A := F
  have hx := F.1.1
  have hb := F.1.2.1
  have hown := F.1.2.2.2.1
  have hts := F.1.2.2.2.2
  have hret : ∀ (pc : Nat) (H : Heap) (locs : List Loc) (ls : Array Slot) (r' : Int32), some r' = some r → narrow .boolean (.int r') = .int r' → decode cX5_isCell pc = .ok (.ireturn, 1) → WD D A [] H → va_S A s.heap H locs → W p l e rmX5_isCell s m args below meth c H locs 0 0 Q (F0 m pc ls [.int r']) := by
    intro pc H locs ls r' h hn hd hP hS
    cases h
    exact hret0 pc H locs ls hn hd hP hS
  have hl : lv_has ls 1 [(0, .int p0)] := hl
  have h := hf
  unfold fX5_isCell at h
  refine lv_iload_n hx hb dX5_isCell_0 rfl (lv_at hl 0 rfl) ?_
  refine lv_iconst (v := 0) hx hb dX5_isCell_1 (by decide) ?_
  refine lv_bipush (v := 63) hx hb dX5_isCell_2 (by decide) ?_
  obtain ⟨r4, hk5, h⟩ := bd1_e h
  refine cS_i (rest := []) F (kX5_isIn l D cI cJ H.size g p0 0 63 r4 hk5) (va_cwS 3 hts gX5_isCell_X5_isIn rfl rfl rfl eSX5_isIn ⟨Nat.le_of_ble_eq_true rfl, Nat.le_of_ble_eq_true rfl⟩) [] hP hS (by decide) rfl rfl rfl hl.1 (Nat.le_of_ble_eq_true rfl) ⟨Nat.le_refl _, Nat.le_refl _⟩ rfl dX5_isCell_4 (fun H locs hP hS => ?_)
  have hP : WD D A [] H := hP
  obtain ⟨hg6, h⟩ := gd_e h
  exact hret 7 H locs ls r4 h (nb_ok hg6) dX5_isCell_7 hP hS
theorem eSX5_has : yX5_has.cls ≠ "java/lang/invoke/MethodHandle" ∧ yX5_has.cls ≠ "java/lang/invoke/VarHandle" ∧ (parseMethodDescriptor yX5_has.desc).map (fun d => d.parameters.length) = some 2 := by decide +kernel
theorem eVX5_has : yX5_has.cls = RX5 ∧ yX5_has.cls ≠ "java/lang/invoke/MethodHandle" ∧ yX5_has.cls ≠ "java/lang/invoke/VarHandle" ∧ (parseMethodDescriptor yX5_has.desc).map (fun d => d.parameters.length) = some 2 := ⟨rfl, eSX5_has⟩
abbrev rmX5_has : Room := { frames := 0, cells := 0, slots := 0, locals := 0 }
def fX5_has (g : Nat) (p0 : Int32) (p1 : Int32) : Option (Int32) := if ((p0 >>> (p1 &&& 31)) &&& 1) = 1 then (some 1) else (some 0)
set_option maxHeartbeats 4000000 in
set_option maxRecDepth 100000 in
theorem kX5_has (l : Launch) (D : va_G) (cI cJ : ClassId) (sz g : Nat) (p0 : Int32) (p1 : Int32) (r : Int32) (hf : fX5_has g p0 p1 = some r) : Met l yX5_has wsX5_has rmX5_has (va_Pc [.int p0, .int p1] (sPc D (tyL cI cJ) [] sz)) (qI D (tyL cI cJ) [] sz [] r) 0 0 (va_A [] sz) := by
  refine st_i (cc := cX5_has) (maxL := 2) (by decide) rfl (Nat.le_of_ble_eq_true rfl) ?_
  intro p e s m args below meth c A Q F hret0 H locs hP hS ls hl
  have F : Cx p s m args c cX5_has 2 wsX5_has RX5 D (tyL cI cJ) A := F
  have hx := F.1.1
  have hb := F.1.2.1
  have hown := F.1.2.2.2.1
  have hts := F.1.2.2.2.2
  have hret : ∀ (pc : Nat) (H : Heap) (locs : List Loc) (ls : Array Slot) (r' : Int32), some r' = some r → narrow .boolean (.int r') = .int r' → decode cX5_has pc = .ok (.ireturn, 1) → WD D A [] H → va_S A s.heap H locs → W p l e rmX5_has s m args below meth c H locs 0 0 Q (F0 m pc ls [.int r']) := by
    intro pc H locs ls r' h hn hd hP hS
    cases h
    exact hret0 pc H locs ls hn hd hP hS
  have hl : lv_has ls 2 [(0, .int p0), (1, .int p1)] := hl
  have h := hf
  unfold fX5_has at h
  refine lv_iload_n hx hb dX5_has_0 rfl (lv_at hl 0 rfl) ?_
  refine lv_iload_n hx hb dX5_has_1 rfl (lv_at hl 1 rfl) ?_
  refine lv_ishr hx hb dX5_has_2 ?_
  refine lv_iconst (v := 1) hx hb dX5_has_3 (by decide) ?_
  refine lv_iand hx hb dX5_has_4 ?_
  refine lv_iconst (v := 1) hx hb dX5_has_5 (by decide) ?_
  refine lv_icmp_ne (tgt := 13) hx hb dX5_has_6 (by decide) (fun hc2 => ?_) (fun hc2 => ?_)
  · have h := it_n hc2 h
    refine lv_iconst (v := 0) hx hb dX5_has_13 (by decide) ?_
    exact hret 14 H locs ls 0 h rfl dX5_has_14 hP hS
  · have h := it_p hc2 h
    refine lv_iconst (v := 1) hx hb dX5_has_9 (by decide) ?_
    refine lv_goto (tgt := 14) hx hb dX5_has_10 (by decide) ?_
    exact hret 14 H locs ls 1 h rfl dX5_has_14 hP hS
theorem eSX5_bits : yX5_bits.cls ≠ "java/lang/invoke/MethodHandle" ∧ yX5_bits.cls ≠ "java/lang/invoke/VarHandle" ∧ (parseMethodDescriptor yX5_bits.desc).map (fun d => d.parameters.length) = some 1 := by decide +kernel
theorem eVX5_bits : yX5_bits.cls = RX5 ∧ yX5_bits.cls ≠ "java/lang/invoke/MethodHandle" ∧ yX5_bits.cls ≠ "java/lang/invoke/VarHandle" ∧ (parseMethodDescriptor yX5_bits.desc).map (fun d => d.parameters.length) = some 1 := ⟨rfl, eSX5_bits⟩
abbrev rmX5_bits : Room := { frames := 0, cells := 0, slots := 0, locals := 0 }
def fX5_bits_L4_b (g : Nat) (x0_L4 : Int32) (self : Int32 → Int32 → Option (Int32)) (x1_L4 : Int32) (x2_L4 : Int32) : Option (Int32) := if 7 ≤ x2_L4 then (some x1_L4) else (self (x1_L4 + ((x0_L4 >>> (x2_L4 &&& 31)) &&& 1)) (x2_L4 + 1))
def fX5_bits_L4 (g : Nat) (x0_L4 : Int32) (n : Nat) : Int32 → Int32 → Option (Int32) := lp (fX5_bits_L4_b g x0_L4) (fun _ _ => none) n
def fX5_bits (g : Nat) (p0 : Int32) : Option (Int32) := bd1 (fX5_bits_L4 g p0 g 0 0) fun t3 => (some t3)
set_option maxHeartbeats 4000000 in
set_option maxRecDepth 100000 in
theorem kX5_bits (l : Launch) (D : va_G) (cI cJ : ClassId) (sz g : Nat) (p0 : Int32) (r : Int32) (hf : fX5_bits g p0 = some r) : Met l yX5_bits wsX5_bits rmX5_bits (va_Pc [.int p0] (sPc D (tyL cI cJ) [] sz)) (qI D (tyL cI cJ) [] sz [] r) 0 0 (va_A [] sz) := by
  refine st_i (cc := cX5_bits) (maxL := 3) (by decide) rfl (Nat.le_of_ble_eq_true rfl) ?_
  intro p e s m args below meth c A Q F hret0 H locs hP hS ls hl
  have F : Cx p s m args c cX5_bits 3 wsX5_bits RX5 D (tyL cI cJ) A := F
  have hx := F.1.1
  have hb := F.1.2.1
  have hown := F.1.2.2.2.1
  have hts := F.1.2.2.2.2
  have hret : ∀ (pc : Nat) (H : Heap) (locs : List Loc) (ls : Array Slot) (r' : Int32), some r' = some r → narrow .int (.int r') = .int r' → decode cX5_bits pc = .ok (.ireturn, 1) → WD D A [] H → va_S A s.heap H locs → W p l e rmX5_bits s m args below meth c H locs 0 0 Q (F0 m pc ls [.int r']) := by
    intro pc H locs ls r' h hn hd hP hS
    cases h
    exact hret0 pc H locs ls hn hd hP hS
  have L4 : ∀ (x0_L4 : Int32) (n : Nat) (x1_L4 : Int32) (x2_L4 : Int32) (tt0 : Int32) (H : Heap) (locs : List Loc) (ls : Array Slot), fX5_bits_L4 g x0_L4 n x1_L4 x2_L4 = some tt0 → WD D A [] H → va_S A s.heap H locs → lv_has ls 3 [(0, .int x0_L4), (1, .int x1_L4), (2, .int x2_L4)] → (∀ (H : Heap) (locs : List Loc) (ls : Array Slot), WD D A [] H → va_S A s.heap H locs → lv_has ls 3 [(1, .int tt0)] → W p l e rmX5_bits s m args below meth c H locs 0 0 Q (F0 m 24 ls [])) → W p l e rmX5_bits s m args below meth c H locs 0 0 Q (F0 m 4 ls []) := by
    intro x0_L4 n
    induction n with
    | zero =>
      intro x1_L4 x2_L4 tt0 H locs ls h
      exact (no_some h).elim
    | succ n ih =>
      intro x1_L4 x2_L4 tt0 H locs ls h hP hS hl kE
      have h : fX5_bits_L4_b g x0_L4 (fX5_bits_L4 g x0_L4 n) x1_L4 x2_L4 = some tt0 := h
      unfold fX5_bits_L4_b at h
      refine lv_iload_n hx hb dX5_bits_4 rfl (lv_at hl 2 rfl) ?_
      refine lv_bipush (v := 7) hx hb dX5_bits_5 (by decide) ?_
      refine lv_icmp_ge (tgt := 24) hx hb dX5_bits_7 (by decide) (fun hc2 => ?_) (fun hc2 => ?_)
      · have h := it_p hc2 h
        cases h
        exact kE H locs ls hP hS (lv_sub hl [1] rfl)
      · have h := it_n hc2 h
        refine lv_iload_n hx hb dX5_bits_10 rfl (lv_at hl 1 rfl) ?_
        refine lv_iload_n hx hb dX5_bits_11 rfl (lv_at hl 0 rfl) ?_
        refine lv_iload_n hx hb dX5_bits_12 rfl (lv_at hl 2 rfl) ?_
        refine lv_ishr hx hb dX5_bits_13 ?_
        refine lv_iconst (v := 1) hx hb dX5_bits_14 (by decide) ?_
        refine lv_iand hx hb dX5_bits_15 ?_
        refine lv_iadd hx hb dX5_bits_16 ?_
        refine lv_istore_n (lv' := [(1, .int (x1_L4 + ((x0_L4 >>> (x2_L4 &&& 31)) &&& 1))), (0, .int x0_L4), (2, .int x2_L4)]) hx hb dX5_bits_17 rfl hl (by decide) rfl (fun ls hl => ?_)
        refine lv_iinc (v := x2_L4 + 1) (lv' := [(2, .int (x2_L4 + 1)), (1, .int (x1_L4 + ((x0_L4 >>> (x2_L4 &&& 31)) &&& 1))), (0, .int x0_L4)]) hx hb dX5_bits_18 hl (k := 2) rfl rfl (by decide) rfl (fun ls hl => ?_)
        refine lv_goto (tgt := 4) hx hb dX5_bits_21 (by decide) ?_
        exact ih (x1_L4 + ((x0_L4 >>> (x2_L4 &&& 31)) &&& 1)) (x2_L4 + 1) tt0 H locs ls h hP hS (lv_sub hl [2, 1, 0] rfl) kE
  have hl : lv_has ls 3 [(0, .int p0)] := hl
  have h := hf
  unfold fX5_bits at h
  refine lv_iconst (v := 0) hx hb dX5_bits_0 (by decide) ?_
  refine lv_istore_n (lv' := [(1, .int 0), (0, .int p0)]) hx hb dX5_bits_1 rfl hl (by decide) rfl (fun ls hl => ?_)
  refine lv_iconst (v := 0) hx hb dX5_bits_2 (by decide) ?_
  refine lv_istore_n (lv' := [(2, .int 0), (1, .int 0), (0, .int p0)]) hx hb dX5_bits_3 rfl hl (by decide) rfl (fun ls hl => ?_)
  obtain ⟨t3, hk4, h⟩ := bd1_e h
  refine L4 p0 g 0 0 t3 H locs ls hk4 hP hS (lv_sub hl [2, 1, 0] rfl) (fun H locs ls hP hS hl => ?_)
  refine lv_iload_n hx hb dX5_bits_24 rfl (lv_at hl 0 rfl) ?_
  exact hret 25 H locs ls t3 h rfl dX5_bits_25 hP hS
theorem eSX5_steps : yX5_steps.cls ≠ "java/lang/invoke/MethodHandle" ∧ yX5_steps.cls ≠ "java/lang/invoke/VarHandle" ∧ (parseMethodDescriptor yX5_steps.desc).map (fun d => d.parameters.length) = some 2 := by decide +kernel
theorem eVX5_steps : yX5_steps.cls = RX5 ∧ yX5_steps.cls ≠ "java/lang/invoke/MethodHandle" ∧ yX5_steps.cls ≠ "java/lang/invoke/VarHandle" ∧ (parseMethodDescriptor yX5_steps.desc).map (fun d => d.parameters.length) = some 2 := ⟨rfl, eSX5_steps⟩
abbrev rmX5_steps : Room := { frames := 1, cells := 0, slots := 0, locals := 20 }
def fX5_steps (g : Nat) (p0 : Int32) (p1 : Int32) : Option (Int32) := bd1 (fX5_far g ((p0 / 8) - (p1 / 8))) fun r5 => (bd1 (fX5_far g ((p0 - p0 / 8 * 8) - (p1 - p1 / 8 * 8))) fun r7 => (some (r5 + r7)))
set_option maxHeartbeats 4000000 in
set_option maxRecDepth 100000 in
theorem kX5_steps (l : Launch) (D : va_G) (cI cJ : ClassId) (sz g : Nat) (p0 : Int32) (p1 : Int32) (r : Int32) (hf : fX5_steps g p0 p1 = some r) : Met l yX5_steps wsX5_steps rmX5_steps (va_Pc [.int p0, .int p1] (sPc D (tyL cI cJ) [] sz)) (qI D (tyL cI cJ) [] sz [] r) 0 0 (va_A [] sz) := by
  refine st_i (cc := cX5_steps) (maxL := 2) (by decide) rfl (Nat.le_of_ble_eq_true rfl) ?_
  intro p e s m args below meth c A Q F hret0 H locs hP hS ls hl
  have F : Cx p s m args c cX5_steps 2 wsX5_steps RX5 D (tyL cI cJ) A := F
  have hx := F.1.1
  have hb := F.1.2.1
  have hown := F.1.2.2.2.1
  have hts := F.1.2.2.2.2
  have hret : ∀ (pc : Nat) (H : Heap) (locs : List Loc) (ls : Array Slot) (r' : Int32), some r' = some r → narrow .int (.int r') = .int r' → decode cX5_steps pc = .ok (.ireturn, 1) → WD D A [] H → va_S A s.heap H locs → W p l e rmX5_steps s m args below meth c H locs 0 0 Q (F0 m pc ls [.int r']) := by
    intro pc H locs ls r' h hn hd hP hS
    cases h
    exact hret0 pc H locs ls hn hd hP hS
  have hl : lv_has ls 2 [(0, .int p0), (1, .int p1)] := hl
  have h := hf
  unfold fX5_steps at h
  refine lv_iload_n hx hb dX5_steps_0 rfl (lv_at hl 0 rfl) ?_
  refine lv_bipush (v := 8) hx hb dX5_steps_1 (by decide) ?_
  refine lv_idiv hx hb dX5_steps_3 (by decide) ?_
  refine lv_iload_n hx hb dX5_steps_4 rfl (lv_at hl 1 rfl) ?_
  refine lv_bipush (v := 8) hx hb dX5_steps_5 (by decide) ?_
  refine lv_idiv hx hb dX5_steps_7 (by decide) ?_
  refine lv_isub hx hb dX5_steps_8 ?_
  obtain ⟨r5, hk6, h⟩ := bd1_e h
  refine cS_i (rest := []) F (kX5_far l D cI cJ H.size g ((p0 / 8) - (p1 / 8)) r5 hk6) (va_cwS 1 hts gX5_steps_X5_far rfl rfl rfl eSX5_far ⟨Nat.le_of_ble_eq_true rfl, Nat.le_of_ble_eq_true rfl⟩) [] hP hS (by decide) rfl rfl rfl hl.1 (Nat.le_of_ble_eq_true rfl) ⟨Nat.le_refl _, Nat.le_refl _⟩ rfl dX5_steps_9 (fun H locs hP hS => ?_)
  have hP : WD D A [] H := hP
  refine lv_iload_n hx hb dX5_steps_12 rfl (lv_at hl 0 rfl) ?_
  refine lv_bipush (v := 8) hx hb dX5_steps_13 (by decide) ?_
  refine lv_irem hx hb dX5_steps_15 (by decide) ?_
  refine lv_iload_n hx hb dX5_steps_16 rfl (lv_at hl 1 rfl) ?_
  refine lv_bipush (v := 8) hx hb dX5_steps_17 (by decide) ?_
  refine lv_irem hx hb dX5_steps_19 (by decide) ?_
  refine lv_isub hx hb dX5_steps_20 ?_
  obtain ⟨r7, hk8, h⟩ := bd1_e h
  refine cS_i (rest := [.int r5]) F (kX5_far l D cI cJ H.size g ((p0 - p0 / 8 * 8) - (p1 - p1 / 8 * 8)) r7 hk8) (va_cwS 1 hts gX5_steps_X5_far rfl rfl rfl eSX5_far ⟨Nat.le_of_ble_eq_true rfl, Nat.le_of_ble_eq_true rfl⟩) [] hP hS (by decide) rfl rfl rfl hl.1 (Nat.le_of_ble_eq_true rfl) ⟨Nat.le_refl _, Nat.le_refl _⟩ rfl dX5_steps_21 (fun H locs hP hS => ?_)
  have hP : WD D A [] H := hP
  refine lv_iadd hx hb dX5_steps_24 ?_
  exact hret 25 H locs ls (r5 + r7) h rfl dX5_steps_25 hP hS
theorem eSX5_cellOf : yX5_cellOf.cls ≠ "java/lang/invoke/MethodHandle" ∧ yX5_cellOf.cls ≠ "java/lang/invoke/VarHandle" ∧ (parseMethodDescriptor yX5_cellOf.desc).map (fun d => d.parameters.length) = some 2 := by decide +kernel
theorem eVX5_cellOf : yX5_cellOf.cls = RX5 ∧ yX5_cellOf.cls ≠ "java/lang/invoke/MethodHandle" ∧ yX5_cellOf.cls ≠ "java/lang/invoke/VarHandle" ∧ (parseMethodDescriptor yX5_cellOf.desc).map (fun d => d.parameters.length) = some 2 := ⟨rfl, eSX5_cellOf⟩
abbrev rmX5_cellOf : Room := { frames := 1, cells := 0, slots := 0, locals := 21 }
def fX5_cellOf (g : Nat) (p1 : Int32) (q0 : Nat → Int32) : Option (Int32) := bd1 (fX5_of g p1 2) fun r5 => (gd (inB r5 45) (gd (inB (4 + (q0 r5.toNatClampNeg)) 45) (some (q0 (4 + (q0 r5.toNatClampNeg)).toNatClampNeg))))
set_option maxHeartbeats 4000000 in
set_option maxRecDepth 100000 in
theorem kX5_cellOf (l : Launch) (D : va_G) (cI cJ : ClassId) (sz g : Nat) (a_q0 : Nat) (q0 : Nat → Int32) (p1 : Int32) (r : Int32) (hf : fX5_cellOf g p1 q0 = some r) : Met l yX5_cellOf wsX5_cellOf rmX5_cellOf (va_Pc [.ref a_q0, .int p1] (sPc D (tyL cI cJ) [(a_q0, .inl (cI, 45, .inl q0))] sz)) (qI D (tyL cI cJ) [(a_q0, .inl (cI, 45, .inl q0))] sz [(a_q0, .inl (cI, 45, .inl q0))] r) 0 0 (va_A [(a_q0, .inl (cI, 45, .inl q0))] sz) := by
  refine st_i (cc := cX5_cellOf) (maxL := 2) (by decide) rfl (Nat.le_of_ble_eq_true rfl) ?_
  intro p e s m args below meth c A Q F hret0 H locs hP hS ls hl
  have F : Cx p s m args c cX5_cellOf 2 wsX5_cellOf RX5 D (tyL cI cJ) A := F
  have hx := F.1.1
  have hb := F.1.2.1
  have hown := F.1.2.2.2.1
  have hts := F.1.2.2.2.2
  have hret : ∀ (pc : Nat) (H : Heap) (locs : List Loc) (ls : Array Slot) (r' : Int32), some r' = some r → narrow .int (.int r') = .int r' → decode cX5_cellOf pc = .ok (.ireturn, 1) → WD D A [(a_q0, .inl (cI, 45, .inl q0))] H → va_S A s.heap H locs → W p l e rmX5_cellOf s m args below meth c H locs 0 0 Q (F0 m pc ls [.int r']) := by
    intro pc H locs ls r' h hn hd hP hS
    cases h
    exact hret0 pc H locs ls hn hd hP hS
  have hl : lv_has ls 2 [(0, .ref a_q0), (1, .int p1)] := hl
  have h := hf
  unfold fX5_cellOf at h
  refine lv_aload_n hx hb dX5_cellOf_0 rfl (lv_at hl 0 rfl) ?_
  refine lv_iconst (v := 4) hx hb dX5_cellOf_1 (by decide) ?_
  refine lv_aload_n hx hb dX5_cellOf_2 rfl (lv_at hl 0 rfl) ?_
  refine lv_iload_n hx hb dX5_cellOf_3 rfl (lv_at hl 1 rfl) ?_
  refine lv_iconst (v := 2) hx hb dX5_cellOf_4 (by decide) ?_
  obtain ⟨r5, hk6, h⟩ := bd1_e h
  refine cS_i (rest := [.ref a_q0, .int 4, .ref a_q0]) F (kX5_of l D cI cJ H.size g p1 2 r5 hk6) (va_cwS 2 hts gX5_cellOf_X5_of rfl rfl rfl eSX5_of ⟨Nat.le_of_ble_eq_true rfl, Nat.le_of_ble_eq_true rfl⟩) [] hP hS (by decide) rfl rfl rfl hl.1 (Nat.le_of_ble_eq_true rfl) ⟨Nat.le_refl _, Nat.le_refl _⟩ rfl dX5_cellOf_5 (fun H locs hP hS => ?_)
  have hP : WD D A [(a_q0, .inl (cI, 45, .inl q0))] H := hP
  obtain ⟨hg7, h⟩ := gd_e h
  refine r_ia F hP 0 rfl rfl hg7 dX5_cellOf_8 ?_
  refine lv_iadd hx hb dX5_cellOf_9 ?_
  obtain ⟨hg8, h⟩ := gd_e h
  refine r_ia F hP 0 rfl rfl hg8 dX5_cellOf_10 ?_
  exact hret 11 H locs ls (q0 (4 + (q0 r5.toNatClampNeg)).toNatClampNeg) h rfl dX5_cellOf_11 hP hS
theorem eSX5_leansIn : yX5_leansIn.cls ≠ "java/lang/invoke/MethodHandle" ∧ yX5_leansIn.cls ≠ "java/lang/invoke/VarHandle" ∧ (parseMethodDescriptor yX5_leansIn.desc).map (fun d => d.parameters.length) = some 2 := by decide +kernel
theorem eVX5_leansIn : yX5_leansIn.cls = RX5 ∧ yX5_leansIn.cls ≠ "java/lang/invoke/MethodHandle" ∧ yX5_leansIn.cls ≠ "java/lang/invoke/VarHandle" ∧ (parseMethodDescriptor yX5_leansIn.desc).map (fun d => d.parameters.length) = some 2 := ⟨rfl, eSX5_leansIn⟩
abbrev rmX5_leansIn : Room := { frames := 2, cells := 0, slots := 0, locals := 42 }
def fX5_leansIn (g : Nat) (p1 : Int32) (q0 : Nat → Int32) : Option (Int32) := bd1 (fX5_of g p1 3) fun r20 => (gd (inB r20 45) (bd1 (fX5_of g p1 1) fun r23 => (gd (inB r23 45) (bd1 (fX5_of g p1 0) fun r26 => (gd (inB r26 45) (if (q0 r26.toNatClampNeg) = 1 then (some (2 * (((q0 r20.toNatClampNeg) / 5) + 1))) else (if (q0 r26.toNatClampNeg) = 2 then (some 0) else (if (q0 r26.toNatClampNeg) = 3 then (some ((((q0 r20.toNatClampNeg) / 5) + 1) + ((q0 r23.toNatClampNeg) / 3))) else (if (q0 r26.toNatClampNeg) = 4 then (some (-((((q0 r20.toNatClampNeg) / 5) + 1) + ((q0 r23.toNatClampNeg) / 3)))) else (if (q0 r26.toNatClampNeg) = 5 then (bd1 (fX5_cellOf g p1 q0) fun r34 => (bd1 (fX5_steps g (q0 3) r34) fun r36 => (if r36 < 4 then (some (4 * (((q0 r20.toNatClampNeg) / 5) + 1))) else (some (((q0 r20.toNatClampNeg) / 5) + 1))))) else (some (((q0 r20.toNatClampNeg) / 5) + 1))))))))))))
set_option maxHeartbeats 4000000 in
set_option maxRecDepth 100000 in
theorem kX5_leansIn (l : Launch) (D : va_G) (cI cJ : ClassId) (sz g : Nat) (a_q0 : Nat) (q0 : Nat → Int32) (p1 : Int32) (r : Int32) (hf : fX5_leansIn g p1 q0 = some r) : Met l yX5_leansIn wsX5_leansIn rmX5_leansIn (va_Pc [.ref a_q0, .int p1] (sPc D (tyL cI cJ) [(a_q0, .inl (cI, 45, .inl q0))] sz)) (qI D (tyL cI cJ) [(a_q0, .inl (cI, 45, .inl q0))] sz [(a_q0, .inl (cI, 45, .inl q0))] r) 0 0 (va_A [(a_q0, .inl (cI, 45, .inl q0))] sz) := by
  refine st_i (cc := cX5_leansIn) (maxL := 4) (by decide) rfl (Nat.le_of_ble_eq_true rfl) ?_
  intro p e s m args below meth c A Q F hret0 H locs hP hS ls hl
  have F : Cx p s m args c cX5_leansIn 4 wsX5_leansIn RX5 D (tyL cI cJ) A := F
  have hx := F.1.1
  have hb := F.1.2.1
  have hown := F.1.2.2.2.1
  have hts := F.1.2.2.2.2
  have hret : ∀ (pc : Nat) (H : Heap) (locs : List Loc) (ls : Array Slot) (r' : Int32), some r' = some r → narrow .int (.int r') = .int r' → decode cX5_leansIn pc = .ok (.ireturn, 1) → WD D A [(a_q0, .inl (cI, 45, .inl q0))] H → va_S A s.heap H locs → W p l e rmX5_leansIn s m args below meth c H locs 0 0 Q (F0 m pc ls [.int r']) := by
    intro pc H locs ls r' h hn hd hP hS
    cases h
    exact hret0 pc H locs ls hn hd hP hS
  have hl : lv_has ls 4 [(0, .ref a_q0), (1, .int p1)] := hl
  have h := hf
  unfold fX5_leansIn at h
  refine lv_aload_n hx hb dX5_leansIn_0 rfl (lv_at hl 0 rfl) ?_
  refine lv_iload_n hx hb dX5_leansIn_1 rfl (lv_at hl 1 rfl) ?_
  refine lv_iconst (v := 3) hx hb dX5_leansIn_2 (by decide) ?_
  obtain ⟨r20, hk21, h⟩ := bd1_e h
  refine cS_i (rest := [.ref a_q0]) F (kX5_of l D cI cJ H.size g p1 3 r20 hk21) (va_cwS 2 hts gX5_leansIn_X5_of rfl rfl rfl eSX5_of ⟨Nat.le_of_ble_eq_true rfl, Nat.le_of_ble_eq_true rfl⟩) [] hP hS (by decide) rfl rfl rfl hl.1 (Nat.le_of_ble_eq_true rfl) ⟨Nat.le_refl _, Nat.le_refl _⟩ rfl dX5_leansIn_3 (fun H locs hP hS => ?_)
  have hP : WD D A [(a_q0, .inl (cI, 45, .inl q0))] H := hP
  obtain ⟨hg22, h⟩ := gd_e h
  refine r_ia F hP 0 rfl rfl hg22 dX5_leansIn_6 ?_
  refine lv_iconst (v := 5) hx hb dX5_leansIn_7 (by decide) ?_
  refine lv_idiv hx hb dX5_leansIn_8 (by decide) ?_
  refine lv_iconst (v := 1) hx hb dX5_leansIn_9 (by decide) ?_
  refine lv_iadd hx hb dX5_leansIn_10 ?_
  refine lv_istore_n (lv' := [(2, .int (((q0 r20.toNatClampNeg) / 5) + 1)), (0, .ref a_q0), (1, .int p1)]) hx hb dX5_leansIn_11 rfl hl (by decide) rfl (fun ls hl => ?_)
  refine lv_aload_n hx hb dX5_leansIn_12 rfl (lv_at hl 1 rfl) ?_
  refine lv_iload_n hx hb dX5_leansIn_13 rfl (lv_at hl 2 rfl) ?_
  refine lv_iconst (v := 1) hx hb dX5_leansIn_14 (by decide) ?_
  obtain ⟨r23, hk24, h⟩ := bd1_e h
  refine cS_i (rest := [.ref a_q0]) F (kX5_of l D cI cJ H.size g p1 1 r23 hk24) (va_cwS 2 hts gX5_leansIn_X5_of rfl rfl rfl eSX5_of ⟨Nat.le_of_ble_eq_true rfl, Nat.le_of_ble_eq_true rfl⟩) [] hP hS (by decide) rfl rfl rfl hl.1 (Nat.le_of_ble_eq_true rfl) ⟨Nat.le_refl _, Nat.le_refl _⟩ rfl dX5_leansIn_15 (fun H locs hP hS => ?_)
  have hP : WD D A [(a_q0, .inl (cI, 45, .inl q0))] H := hP
  obtain ⟨hg25, h⟩ := gd_e h
  refine r_ia F hP 0 rfl rfl hg25 dX5_leansIn_18 ?_
  refine lv_iconst (v := 3) hx hb dX5_leansIn_19 (by decide) ?_
  refine lv_idiv hx hb dX5_leansIn_20 (by decide) ?_
  refine lv_istore_n (lv' := [(3, .int ((q0 r23.toNatClampNeg) / 3)), (2, .int (((q0 r20.toNatClampNeg) / 5) + 1)), (0, .ref a_q0), (1, .int p1)]) hx hb dX5_leansIn_21 rfl hl (by decide) rfl (fun ls hl => ?_)
  refine lv_aload_n hx hb dX5_leansIn_22 rfl (lv_at hl 2 rfl) ?_
  refine lv_iload_n hx hb dX5_leansIn_23 rfl (lv_at hl 3 rfl) ?_
  refine lv_iconst (v := 0) hx hb dX5_leansIn_24 (by decide) ?_
  obtain ⟨r26, hk27, h⟩ := bd1_e h
  refine cS_i (rest := [.ref a_q0]) F (kX5_of l D cI cJ H.size g p1 0 r26 hk27) (va_cwS 2 hts gX5_leansIn_X5_of rfl rfl rfl eSX5_of ⟨Nat.le_of_ble_eq_true rfl, Nat.le_of_ble_eq_true rfl⟩) [] hP hS (by decide) rfl rfl rfl hl.1 (Nat.le_of_ble_eq_true rfl) ⟨Nat.le_refl _, Nat.le_refl _⟩ rfl dX5_leansIn_25 (fun H locs hP hS => ?_)
  have hP : WD D A [(a_q0, .inl (cI, 45, .inl q0))] H := hP
  obtain ⟨hg28, h⟩ := gd_e h
  refine r_ia F hP 0 rfl rfl hg28 dX5_leansIn_28 ?_
  by_cases hc29 : (q0 r26.toNatClampNeg) = 1
  · have h := it_p hc29 h
    refine lv_tableIn (off := 35) (tgt := 64) hx hb dX5_leansIn_29 (by rw [hc29]; decide) (by rw [hc29]; decide) (by rw [hc29]; rfl) (by decide) ?_
    refine lv_iconst (v := 2) hx hb dX5_leansIn_64 (by decide) ?_
    refine lv_iload_n hx hb dX5_leansIn_65 rfl (lv_at hl 1 rfl) ?_
    refine lv_imul hx hb dX5_leansIn_66 ?_
    exact hret 67 H locs ls (2 * (((q0 r20.toNatClampNeg) / 5) + 1)) h rfl dX5_leansIn_67 hP hS
  · have h := it_n hc29 h
    by_cases hc30 : (q0 r26.toNatClampNeg) = 2
    · have h := it_p hc30 h
      refine lv_tableIn (off := 39) (tgt := 68) hx hb dX5_leansIn_29 (by rw [hc30]; decide) (by rw [hc30]; decide) (by rw [hc30]; rfl) (by decide) ?_
      refine lv_iconst (v := 0) hx hb dX5_leansIn_68 (by decide) ?_
      exact hret 69 H locs ls 0 h rfl dX5_leansIn_69 hP hS
    · have h := it_n hc30 h
      by_cases hc31 : (q0 r26.toNatClampNeg) = 3
      · have h := it_p hc31 h
        refine lv_tableIn (off := 41) (tgt := 70) hx hb dX5_leansIn_29 (by rw [hc31]; decide) (by rw [hc31]; decide) (by rw [hc31]; rfl) (by decide) ?_
        refine lv_iload_n hx hb dX5_leansIn_70 rfl (lv_at hl 1 rfl) ?_
        refine lv_iload_n hx hb dX5_leansIn_71 rfl (lv_at hl 0 rfl) ?_
        refine lv_iadd hx hb dX5_leansIn_72 ?_
        exact hret 73 H locs ls ((((q0 r20.toNatClampNeg) / 5) + 1) + ((q0 r23.toNatClampNeg) / 3)) h rfl dX5_leansIn_73 hP hS
      · have h := it_n hc31 h
        by_cases hc32 : (q0 r26.toNatClampNeg) = 4
        · have h := it_p hc32 h
          refine lv_tableIn (off := 45) (tgt := 74) hx hb dX5_leansIn_29 (by rw [hc32]; decide) (by rw [hc32]; decide) (by rw [hc32]; rfl) (by decide) ?_
          refine lv_iload_n hx hb dX5_leansIn_74 rfl (lv_at hl 1 rfl) ?_
          refine lv_iload_n hx hb dX5_leansIn_75 rfl (lv_at hl 0 rfl) ?_
          refine lv_iadd hx hb dX5_leansIn_76 ?_
          refine lv_ineg hx hb dX5_leansIn_77 ?_
          exact hret 78 H locs ls (-((((q0 r20.toNatClampNeg) / 5) + 1) + ((q0 r23.toNatClampNeg) / 3))) h rfl dX5_leansIn_78 hP hS
        · have h := it_n hc32 h
          by_cases hc33 : (q0 r26.toNatClampNeg) = 5
          · have h := it_p hc33 h
            refine lv_tableIn (off := 50) (tgt := 79) hx hb dX5_leansIn_29 (by rw [hc33]; decide) (by rw [hc33]; decide) (by rw [hc33]; rfl) (by decide) ?_
            refine lv_aload_n hx hb dX5_leansIn_79 rfl (lv_at hl 2 rfl) ?_
            refine lv_iconst (v := 3) hx hb dX5_leansIn_80 (by decide) ?_
            refine r_ia F hP 0 rfl (j := 3) rfl (by decide) dX5_leansIn_81 ?_
            refine lv_aload_n hx hb dX5_leansIn_82 rfl (lv_at hl 2 rfl) ?_
            refine lv_iload_n hx hb dX5_leansIn_83 rfl (lv_at hl 3 rfl) ?_
            obtain ⟨r34, hk35, h⟩ := bd1_e h
            refine cS_i (rest := [.int (q0 3)]) F (kX5_cellOf l D cI cJ H.size g a_q0 q0 p1 r34 hk35) (va_cwS 2 hts gX5_leansIn_X5_cellOf rfl rfl rfl eSX5_cellOf ⟨Nat.le_of_ble_eq_true rfl, Nat.le_of_ble_eq_true rfl⟩) [0] hP hS (by decide) rfl rfl rfl hl.1 (Nat.le_of_ble_eq_true rfl) ⟨Nat.le_refl _, Nat.le_refl _⟩ rfl dX5_leansIn_84 (fun H locs hP hS => ?_)
            have hP : WD D A [(a_q0, .inl (cI, 45, .inl q0))] H := hP
            obtain ⟨r36, hk37, h⟩ := bd1_e h
            refine cS_i (rest := []) F (kX5_steps l D cI cJ H.size g (q0 3) r34 r36 hk37) (va_cwS 2 hts gX5_leansIn_X5_steps rfl rfl rfl eSX5_steps ⟨Nat.le_of_ble_eq_true rfl, Nat.le_of_ble_eq_true rfl⟩) [] hP hS (by decide) rfl rfl rfl hl.1 (Nat.le_of_ble_eq_true rfl) ⟨Nat.le_refl _, Nat.le_refl _⟩ rfl dX5_leansIn_87 (fun H locs hP hS => ?_)
            have hP : WD D A [(a_q0, .inl (cI, 45, .inl q0))] H := hP
            refine lv_iconst (v := 4) hx hb dX5_leansIn_90 (by decide) ?_
            refine lv_icmp_lt (tgt := 98) hx hb dX5_leansIn_91 (by decide) (fun hc38 => ?_) (fun hc38 => ?_)
            · have h := it_p hc38 h
              refine lv_iconst (v := 4) hx hb dX5_leansIn_98 (by decide) ?_
              refine lv_iload_n hx hb dX5_leansIn_99 rfl (lv_at hl 1 rfl) ?_
              refine lv_imul hx hb dX5_leansIn_100 ?_
              exact hret 101 H locs ls (4 * (((q0 r20.toNatClampNeg) / 5) + 1)) h rfl dX5_leansIn_101 hP hS
            · have h := it_n hc38 h
              refine lv_iload_n hx hb dX5_leansIn_94 rfl (lv_at hl 1 rfl) ?_
              refine lv_goto (tgt := 101) hx hb dX5_leansIn_95 (by decide) ?_
              exact hret 101 H locs ls (((q0 r20.toNatClampNeg) / 5) + 1) h rfl dX5_leansIn_101 hP hS
          · have h := it_n hc33 h
            refine lv_tabD (tgt := 102) [1, 2, 3, 4, 5] hx hb dX5_leansIn_29 (by decide) (by decide) (List.forall_mem_cons.mpr ⟨lv_neT hc29 (by decide), List.forall_mem_cons.mpr ⟨lv_neT hc30 (by decide), List.forall_mem_cons.mpr ⟨lv_neT hc31 (by decide), List.forall_mem_cons.mpr ⟨lv_neT hc32 (by decide), List.forall_mem_cons.mpr ⟨lv_neT hc33 (by decide), fun _ h9 => absurd h9 List.not_mem_nil⟩⟩⟩⟩⟩) (by decide) ?_
            refine lv_iload_n hx hb dX5_leansIn_102 rfl (lv_at hl 1 rfl) ?_
            exact hret 103 H locs ls (((q0 r20.toNatClampNeg) / 5) + 1) h rfl dX5_leansIn_103 hP hS
theorem eSX5_isAboard : yX5_isAboard.cls ≠ "java/lang/invoke/MethodHandle" ∧ yX5_isAboard.cls ≠ "java/lang/invoke/VarHandle" ∧ (parseMethodDescriptor yX5_isAboard.desc).map (fun d => d.parameters.length) = some 2 := by decide +kernel
theorem eVX5_isAboard : yX5_isAboard.cls = RX5 ∧ yX5_isAboard.cls ≠ "java/lang/invoke/MethodHandle" ∧ yX5_isAboard.cls ≠ "java/lang/invoke/VarHandle" ∧ (parseMethodDescriptor yX5_isAboard.desc).map (fun d => d.parameters.length) = some 2 := ⟨rfl, eSX5_isAboard⟩
abbrev rmX5_isAboard : Room := { frames := 1, cells := 0, slots := 0, locals := 21 }
def fX5_isAboard (g : Nat) (p1 : Int32) (q0 : Nat → Int32) : Option (Int32) := bd1 (fX5_of g p1 4) fun r5 => (gd (inB r5 45) (if (q0 r5.toNatClampNeg) = 1 then (some 1) else (some 0)))
set_option maxHeartbeats 4000000 in
set_option maxRecDepth 100000 in
theorem kX5_isAboard (l : Launch) (D : va_G) (cI cJ : ClassId) (sz g : Nat) (a_q0 : Nat) (q0 : Nat → Int32) (p1 : Int32) (r : Int32) (hf : fX5_isAboard g p1 q0 = some r) : Met l yX5_isAboard wsX5_isAboard rmX5_isAboard (va_Pc [.ref a_q0, .int p1] (sPc D (tyL cI cJ) [(a_q0, .inl (cI, 45, .inl q0))] sz)) (qI D (tyL cI cJ) [(a_q0, .inl (cI, 45, .inl q0))] sz [(a_q0, .inl (cI, 45, .inl q0))] r) 0 0 (va_A [(a_q0, .inl (cI, 45, .inl q0))] sz) := by
  refine st_i (cc := cX5_isAboard) (maxL := 2) (by decide) rfl (Nat.le_of_ble_eq_true rfl) ?_
  intro p e s m args below meth c A Q F hret0 H locs hP hS ls hl
  have F : Cx p s m args c cX5_isAboard 2 wsX5_isAboard RX5 D (tyL cI cJ) A := F
  have hx := F.1.1
  have hb := F.1.2.1
  have hown := F.1.2.2.2.1
  have hts := F.1.2.2.2.2
  have hret : ∀ (pc : Nat) (H : Heap) (locs : List Loc) (ls : Array Slot) (r' : Int32), some r' = some r → narrow .boolean (.int r') = .int r' → decode cX5_isAboard pc = .ok (.ireturn, 1) → WD D A [(a_q0, .inl (cI, 45, .inl q0))] H → va_S A s.heap H locs → W p l e rmX5_isAboard s m args below meth c H locs 0 0 Q (F0 m pc ls [.int r']) := by
    intro pc H locs ls r' h hn hd hP hS
    cases h
    exact hret0 pc H locs ls hn hd hP hS
  have hl : lv_has ls 2 [(0, .ref a_q0), (1, .int p1)] := hl
  have h := hf
  unfold fX5_isAboard at h
  refine lv_aload_n hx hb dX5_isAboard_0 rfl (lv_at hl 0 rfl) ?_
  refine lv_iload_n hx hb dX5_isAboard_1 rfl (lv_at hl 1 rfl) ?_
  refine lv_iconst (v := 4) hx hb dX5_isAboard_2 (by decide) ?_
  obtain ⟨r5, hk6, h⟩ := bd1_e h
  refine cS_i (rest := [.ref a_q0]) F (kX5_of l D cI cJ H.size g p1 4 r5 hk6) (va_cwS 2 hts gX5_isAboard_X5_of rfl rfl rfl eSX5_of ⟨Nat.le_of_ble_eq_true rfl, Nat.le_of_ble_eq_true rfl⟩) [] hP hS (by decide) rfl rfl rfl hl.1 (Nat.le_of_ble_eq_true rfl) ⟨Nat.le_refl _, Nat.le_refl _⟩ rfl dX5_isAboard_3 (fun H locs hP hS => ?_)
  have hP : WD D A [(a_q0, .inl (cI, 45, .inl q0))] H := hP
  obtain ⟨hg7, h⟩ := gd_e h
  refine r_ia F hP 0 rfl rfl hg7 dX5_isAboard_6 ?_
  refine lv_iconst (v := 1) hx hb dX5_isAboard_7 (by decide) ?_
  refine lv_icmp_ne (tgt := 15) hx hb dX5_isAboard_8 (by decide) (fun hc8 => ?_) (fun hc8 => ?_)
  · have h := it_n hc8 h
    refine lv_iconst (v := 0) hx hb dX5_isAboard_15 (by decide) ?_
    exact hret 16 H locs ls 0 h rfl dX5_isAboard_16 hP hS
  · have h := it_p hc8 h
    refine lv_iconst (v := 1) hx hb dX5_isAboard_11 (by decide) ?_
    refine lv_goto (tgt := 16) hx hb dX5_isAboard_12 (by decide) ?_
    exact hret 16 H locs ls 1 h rfl dX5_isAboard_16 hP hS
theorem eSX5_signOf : yX5_signOf.cls ≠ "java/lang/invoke/MethodHandle" ∧ yX5_signOf.cls ≠ "java/lang/invoke/VarHandle" ∧ (parseMethodDescriptor yX5_signOf.desc).map (fun d => d.parameters.length) = some 1 := by decide +kernel
theorem eVX5_signOf : yX5_signOf.cls = RX5 ∧ yX5_signOf.cls ≠ "java/lang/invoke/MethodHandle" ∧ yX5_signOf.cls ≠ "java/lang/invoke/VarHandle" ∧ (parseMethodDescriptor yX5_signOf.desc).map (fun d => d.parameters.length) = some 1 := ⟨rfl, eSX5_signOf⟩
abbrev rmX5_signOf : Room := { frames := 0, cells := 0, slots := 0, locals := 0 }
def fX5_signOf (g : Nat) (p0 : Int32) : Option (Int32) := if 0 ≤ p0 then (if p0 ≤ 0 then (some 0) else (some 1)) else (some (-1))
set_option maxHeartbeats 4000000 in
set_option maxRecDepth 100000 in
theorem kX5_signOf (l : Launch) (D : va_G) (cI cJ : ClassId) (sz g : Nat) (p0 : Int32) (r : Int32) (hf : fX5_signOf g p0 = some r) : Met l yX5_signOf wsX5_signOf rmX5_signOf (va_Pc [.int p0] (sPc D (tyL cI cJ) [] sz)) (qI D (tyL cI cJ) [] sz [] r) 0 0 (va_A [] sz) := by
  refine st_i (cc := cX5_signOf) (maxL := 1) (by decide) rfl (Nat.le_of_ble_eq_true rfl) ?_
  intro p e s m args below meth c A Q F hret0 H locs hP hS ls hl
  have F : Cx p s m args c cX5_signOf 1 wsX5_signOf RX5 D (tyL cI cJ) A := F
  have hx := F.1.1
  have hb := F.1.2.1
  have hown := F.1.2.2.2.1
  have hts := F.1.2.2.2.2
  have hret : ∀ (pc : Nat) (H : Heap) (locs : List Loc) (ls : Array Slot) (r' : Int32), some r' = some r → narrow .int (.int r') = .int r' → decode cX5_signOf pc = .ok (.ireturn, 1) → WD D A [] H → va_S A s.heap H locs → W p l e rmX5_signOf s m args below meth c H locs 0 0 Q (F0 m pc ls [.int r']) := by
    intro pc H locs ls r' h hn hd hP hS
    cases h
    exact hret0 pc H locs ls hn hd hP hS
  have hl : lv_has ls 1 [(0, .int p0)] := hl
  have h := hf
  unfold fX5_signOf at h
  refine lv_iload_n hx hb dX5_signOf_0 rfl (lv_at hl 0 rfl) ?_
  refine lv_if_ge (tgt := 8) hx hb dX5_signOf_1 (by decide) (fun hc3 => ?_) (fun hc3 => ?_)
  · have h := it_p hc3 h
    refine lv_iload_n hx hb dX5_signOf_8 rfl (lv_at hl 0 rfl) ?_
    refine lv_if_le (tgt := 16) hx hb dX5_signOf_9 (by decide) (fun hc4 => ?_) (fun hc4 => ?_)
    · have h := it_p hc4 h
      refine lv_iconst (v := 0) hx hb dX5_signOf_16 (by decide) ?_
      exact hret 17 H locs ls 0 h rfl dX5_signOf_17 hP hS
    · have h := it_n hc4 h
      refine lv_iconst (v := 1) hx hb dX5_signOf_12 (by decide) ?_
      refine lv_goto (tgt := 17) hx hb dX5_signOf_13 (by decide) ?_
      exact hret 17 H locs ls 1 h rfl dX5_signOf_17 hP hS
  · have h := it_n hc3 h
    refine lv_iconst (v := (-1)) hx hb dX5_signOf_4 (by decide) ?_
    refine lv_goto (tgt := 17) hx hb dX5_signOf_5 (by decide) ?_
    exact hret 17 H locs ls (-1) h rfl dX5_signOf_17 hP hS
theorem eSX5_rowsOff : yX5_rowsOff.cls ≠ "java/lang/invoke/MethodHandle" ∧ yX5_rowsOff.cls ≠ "java/lang/invoke/VarHandle" ∧ (parseMethodDescriptor yX5_rowsOff.desc).map (fun d => d.parameters.length) = some 2 := by decide +kernel
theorem eVX5_rowsOff : yX5_rowsOff.cls = RX5 ∧ yX5_rowsOff.cls ≠ "java/lang/invoke/MethodHandle" ∧ yX5_rowsOff.cls ≠ "java/lang/invoke/VarHandle" ∧ (parseMethodDescriptor yX5_rowsOff.desc).map (fun d => d.parameters.length) = some 2 := ⟨rfl, eSX5_rowsOff⟩
abbrev rmX5_rowsOff : Room := { frames := 2, cells := 0, slots := 0, locals := 42 }
def fX5_rowsOff (g : Nat) (p1 : Int32) (q0 : Nat → Int32) : Option (Int32) := bd1 (fX5_cellOf g p1 q0) fun r5 => (bd1 (fX5_signOf g ((r5 / 8) - ((q0 3) / 8))) fun r7 => (some r7))
set_option maxHeartbeats 4000000 in
set_option maxRecDepth 100000 in
theorem kX5_rowsOff (l : Launch) (D : va_G) (cI cJ : ClassId) (sz g : Nat) (a_q0 : Nat) (q0 : Nat → Int32) (p1 : Int32) (r : Int32) (hf : fX5_rowsOff g p1 q0 = some r) : Met l yX5_rowsOff wsX5_rowsOff rmX5_rowsOff (va_Pc [.ref a_q0, .int p1] (sPc D (tyL cI cJ) [(a_q0, .inl (cI, 45, .inl q0))] sz)) (qI D (tyL cI cJ) [(a_q0, .inl (cI, 45, .inl q0))] sz [(a_q0, .inl (cI, 45, .inl q0))] r) 0 0 (va_A [(a_q0, .inl (cI, 45, .inl q0))] sz) := by
  refine st_i (cc := cX5_rowsOff) (maxL := 2) (by decide) rfl (Nat.le_of_ble_eq_true rfl) ?_
  intro p e s m args below meth c A Q F hret0 H locs hP hS ls hl
  have F : Cx p s m args c cX5_rowsOff 2 wsX5_rowsOff RX5 D (tyL cI cJ) A := F
  have hx := F.1.1
  have hb := F.1.2.1
  have hown := F.1.2.2.2.1
  have hts := F.1.2.2.2.2
  have hret : ∀ (pc : Nat) (H : Heap) (locs : List Loc) (ls : Array Slot) (r' : Int32), some r' = some r → narrow .int (.int r') = .int r' → decode cX5_rowsOff pc = .ok (.ireturn, 1) → WD D A [(a_q0, .inl (cI, 45, .inl q0))] H → va_S A s.heap H locs → W p l e rmX5_rowsOff s m args below meth c H locs 0 0 Q (F0 m pc ls [.int r']) := by
    intro pc H locs ls r' h hn hd hP hS
    cases h
    exact hret0 pc H locs ls hn hd hP hS
  have hl : lv_has ls 2 [(0, .ref a_q0), (1, .int p1)] := hl
  have h := hf
  unfold fX5_rowsOff at h
  refine lv_aload_n hx hb dX5_rowsOff_0 rfl (lv_at hl 0 rfl) ?_
  refine lv_iload_n hx hb dX5_rowsOff_1 rfl (lv_at hl 1 rfl) ?_
  obtain ⟨r5, hk6, h⟩ := bd1_e h
  refine cS_i (rest := []) F (kX5_cellOf l D cI cJ H.size g a_q0 q0 p1 r5 hk6) (va_cwS 2 hts gX5_rowsOff_X5_cellOf rfl rfl rfl eSX5_cellOf ⟨Nat.le_of_ble_eq_true rfl, Nat.le_of_ble_eq_true rfl⟩) [0] hP hS (by decide) rfl rfl rfl hl.1 (Nat.le_of_ble_eq_true rfl) ⟨Nat.le_refl _, Nat.le_refl _⟩ rfl dX5_rowsOff_2 (fun H locs hP hS => ?_)
  have hP : WD D A [(a_q0, .inl (cI, 45, .inl q0))] H := hP
  refine lv_bipush (v := 8) hx hb dX5_rowsOff_5 (by decide) ?_
  refine lv_idiv hx hb dX5_rowsOff_7 (by decide) ?_
  refine lv_aload_n hx hb dX5_rowsOff_8 rfl (lv_at hl 0 rfl) ?_
  refine lv_iconst (v := 3) hx hb dX5_rowsOff_9 (by decide) ?_
  refine r_ia F hP 0 rfl (j := 3) rfl (by decide) dX5_rowsOff_10 ?_
  refine lv_bipush (v := 8) hx hb dX5_rowsOff_11 (by decide) ?_
  refine lv_idiv hx hb dX5_rowsOff_13 (by decide) ?_
  refine lv_isub hx hb dX5_rowsOff_14 ?_
  obtain ⟨r7, hk8, h⟩ := bd1_e h
  refine cS_i (rest := []) F (kX5_signOf l D cI cJ H.size g ((r5 / 8) - ((q0 3) / 8)) r7 hk8) (va_cwS 1 hts gX5_rowsOff_X5_signOf rfl rfl rfl eSX5_signOf ⟨Nat.le_of_ble_eq_true rfl, Nat.le_of_ble_eq_true rfl⟩) [] hP hS (by decide) rfl rfl rfl hl.1 (Nat.le_of_ble_eq_true rfl) ⟨Nat.le_refl _, Nat.le_refl _⟩ rfl dX5_rowsOff_15 (fun H locs hP hS => ?_)
  have hP : WD D A [(a_q0, .inl (cI, 45, .inl q0))] H := hP
  exact hret 18 H locs ls r7 h rfl dX5_rowsOff_18 hP hS
theorem eSX5_columnsOff : yX5_columnsOff.cls ≠ "java/lang/invoke/MethodHandle" ∧ yX5_columnsOff.cls ≠ "java/lang/invoke/VarHandle" ∧ (parseMethodDescriptor yX5_columnsOff.desc).map (fun d => d.parameters.length) = some 2 := by decide +kernel
theorem eVX5_columnsOff : yX5_columnsOff.cls = RX5 ∧ yX5_columnsOff.cls ≠ "java/lang/invoke/MethodHandle" ∧ yX5_columnsOff.cls ≠ "java/lang/invoke/VarHandle" ∧ (parseMethodDescriptor yX5_columnsOff.desc).map (fun d => d.parameters.length) = some 2 := ⟨rfl, eSX5_columnsOff⟩
abbrev rmX5_columnsOff : Room := { frames := 2, cells := 0, slots := 0, locals := 42 }
def fX5_columnsOff (g : Nat) (p1 : Int32) (q0 : Nat → Int32) : Option (Int32) := bd1 (fX5_cellOf g p1 q0) fun r5 => (bd1 (fX5_signOf g ((r5 - r5 / 8 * 8) - ((q0 3) - (q0 3) / 8 * 8))) fun r7 => (some r7))
set_option maxHeartbeats 4000000 in
set_option maxRecDepth 100000 in
theorem kX5_columnsOff (l : Launch) (D : va_G) (cI cJ : ClassId) (sz g : Nat) (a_q0 : Nat) (q0 : Nat → Int32) (p1 : Int32) (r : Int32) (hf : fX5_columnsOff g p1 q0 = some r) : Met l yX5_columnsOff wsX5_columnsOff rmX5_columnsOff (va_Pc [.ref a_q0, .int p1] (sPc D (tyL cI cJ) [(a_q0, .inl (cI, 45, .inl q0))] sz)) (qI D (tyL cI cJ) [(a_q0, .inl (cI, 45, .inl q0))] sz [(a_q0, .inl (cI, 45, .inl q0))] r) 0 0 (va_A [(a_q0, .inl (cI, 45, .inl q0))] sz) := by
  refine st_i (cc := cX5_columnsOff) (maxL := 2) (by decide) rfl (Nat.le_of_ble_eq_true rfl) ?_
  intro p e s m args below meth c A Q F hret0 H locs hP hS ls hl
  have F : Cx p s m args c cX5_columnsOff 2 wsX5_columnsOff RX5 D (tyL cI cJ) A := F
  have hx := F.1.1
  have hb := F.1.2.1
  have hown := F.1.2.2.2.1
  have hts := F.1.2.2.2.2
  have hret : ∀ (pc : Nat) (H : Heap) (locs : List Loc) (ls : Array Slot) (r' : Int32), some r' = some r → narrow .int (.int r') = .int r' → decode cX5_columnsOff pc = .ok (.ireturn, 1) → WD D A [(a_q0, .inl (cI, 45, .inl q0))] H → va_S A s.heap H locs → W p l e rmX5_columnsOff s m args below meth c H locs 0 0 Q (F0 m pc ls [.int r']) := by
    intro pc H locs ls r' h hn hd hP hS
    cases h
    exact hret0 pc H locs ls hn hd hP hS
  have hl : lv_has ls 2 [(0, .ref a_q0), (1, .int p1)] := hl
  have h := hf
  unfold fX5_columnsOff at h
  refine lv_aload_n hx hb dX5_columnsOff_0 rfl (lv_at hl 0 rfl) ?_
  refine lv_iload_n hx hb dX5_columnsOff_1 rfl (lv_at hl 1 rfl) ?_
  obtain ⟨r5, hk6, h⟩ := bd1_e h
  refine cS_i (rest := []) F (kX5_cellOf l D cI cJ H.size g a_q0 q0 p1 r5 hk6) (va_cwS 2 hts gX5_columnsOff_X5_cellOf rfl rfl rfl eSX5_cellOf ⟨Nat.le_of_ble_eq_true rfl, Nat.le_of_ble_eq_true rfl⟩) [0] hP hS (by decide) rfl rfl rfl hl.1 (Nat.le_of_ble_eq_true rfl) ⟨Nat.le_refl _, Nat.le_refl _⟩ rfl dX5_columnsOff_2 (fun H locs hP hS => ?_)
  have hP : WD D A [(a_q0, .inl (cI, 45, .inl q0))] H := hP
  refine lv_bipush (v := 8) hx hb dX5_columnsOff_5 (by decide) ?_
  refine lv_irem hx hb dX5_columnsOff_7 (by decide) ?_
  refine lv_aload_n hx hb dX5_columnsOff_8 rfl (lv_at hl 0 rfl) ?_
  refine lv_iconst (v := 3) hx hb dX5_columnsOff_9 (by decide) ?_
  refine r_ia F hP 0 rfl (j := 3) rfl (by decide) dX5_columnsOff_10 ?_
  refine lv_bipush (v := 8) hx hb dX5_columnsOff_11 (by decide) ?_
  refine lv_irem hx hb dX5_columnsOff_13 (by decide) ?_
  refine lv_isub hx hb dX5_columnsOff_14 ?_
  obtain ⟨r7, hk8, h⟩ := bd1_e h
  refine cS_i (rest := []) F (kX5_signOf l D cI cJ H.size g ((r5 - r5 / 8 * 8) - ((q0 3) - (q0 3) / 8 * 8)) r7 hk8) (va_cwS 1 hts gX5_columnsOff_X5_signOf rfl rfl rfl eSX5_signOf ⟨Nat.le_of_ble_eq_true rfl, Nat.le_of_ble_eq_true rfl⟩) [] hP hS (by decide) rfl rfl rfl hl.1 (Nat.le_of_ble_eq_true rfl) ⟨Nat.le_refl _, Nat.le_refl _⟩ rfl dX5_columnsOff_15 (fun H locs hP hS => ?_)
  have hP : WD D A [(a_q0, .inl (cI, 45, .inl q0))] H := hP
  exact hret 18 H locs ls r7 h rfl dX5_columnsOff_18 hP hS
theorem eSX5_pullIn : yX5_pullIn.cls ≠ "java/lang/invoke/MethodHandle" ∧ yX5_pullIn.cls ≠ "java/lang/invoke/VarHandle" ∧ (parseMethodDescriptor yX5_pullIn.desc).map (fun d => d.parameters.length) = some 3 := by decide +kernel
theorem eVX5_pullIn : yX5_pullIn.cls = RX5 ∧ yX5_pullIn.cls ≠ "java/lang/invoke/MethodHandle" ∧ yX5_pullIn.cls ≠ "java/lang/invoke/VarHandle" ∧ (parseMethodDescriptor yX5_pullIn.desc).map (fun d => d.parameters.length) = some 3 := ⟨rfl, eSX5_pullIn⟩
abbrev rmX5_pullIn : Room := { frames := 3, cells := 0, slots := 0, locals := 65 }
def fX5_pullIn_L5_b (g : Nat) (x1_L5 : Int32) (x2_L5 : Int32) (q0 : Nat → Int32) (self : Int32 → Int32 → Option (Int32)) (x3_L5 : Int32) (x4_L5 : Int32) : Option (Int32) := if (q0 1) ≤ x4_L5 then (some x3_L5) else (if x4_L5 = x2_L5 then (self x3_L5 (x4_L5 + 1)) else (bd1 (fX5_isAboard g x4_L5 q0) fun r4 => (if r4 = 0 then (self x3_L5 (x4_L5 + 1)) else (bd1 (fX5_leansIn g x4_L5 q0) fun r7 => (if x1_L5 = 0 then (bd1 (fX5_rowsOff g x4_L5 q0) fun r12 => (self (x3_L5 + (r7 * r12)) (x4_L5 + 1))) else (bd1 (fX5_columnsOff g x4_L5 q0) fun r10 => (self (x3_L5 + (r7 * r10)) (x4_L5 + 1))))))))
def fX5_pullIn_L5 (g : Nat) (x1_L5 : Int32) (x2_L5 : Int32) (q0 : Nat → Int32) (n : Nat) : Int32 → Int32 → Option (Int32) := lp (fX5_pullIn_L5_b g x1_L5 x2_L5 q0) (fun _ _ => none) n
def fX5_pullIn (g : Nat) (p1 : Int32) (p2 : Int32) (q0 : Nat → Int32) : Option (Int32) := bd1 (fX5_pullIn_L5 g p1 p2 q0 g 0 0) fun t14 => (some t14)
set_option maxHeartbeats 4000000 in
set_option maxRecDepth 100000 in
theorem kX5_pullIn (l : Launch) (D : va_G) (cI cJ : ClassId) (sz g : Nat) (a_q0 : Nat) (q0 : Nat → Int32) (p1 : Int32) (p2 : Int32) (r : Int32) (hf : fX5_pullIn g p1 p2 q0 = some r) : Met l yX5_pullIn wsX5_pullIn rmX5_pullIn (va_Pc [.ref a_q0, .int p1, .int p2] (sPc D (tyL cI cJ) [(a_q0, .inl (cI, 45, .inl q0))] sz)) (qI D (tyL cI cJ) [(a_q0, .inl (cI, 45, .inl q0))] sz [(a_q0, .inl (cI, 45, .inl q0))] r) 0 0 (va_A [(a_q0, .inl (cI, 45, .inl q0))] sz) := by
  refine st_i (cc := cX5_pullIn) (maxL := 5) (by decide) rfl (Nat.le_of_ble_eq_true rfl) ?_
  intro p e s m args below meth c A Q F hret0 H locs hP hS ls hl
  have F : Cx p s m args c cX5_pullIn 5 wsX5_pullIn RX5 D (tyL cI cJ) A := F
  have hx := F.1.1
  have hb := F.1.2.1
  have hown := F.1.2.2.2.1
  have hts := F.1.2.2.2.2
  have hret : ∀ (pc : Nat) (H : Heap) (locs : List Loc) (ls : Array Slot) (r' : Int32), some r' = some r → narrow .int (.int r') = .int r' → decode cX5_pullIn pc = .ok (.ireturn, 1) → WD D A [(a_q0, .inl (cI, 45, .inl q0))] H → va_S A s.heap H locs → W p l e rmX5_pullIn s m args below meth c H locs 0 0 Q (F0 m pc ls [.int r']) := by
    intro pc H locs ls r' h hn hd hP hS
    cases h
    exact hret0 pc H locs ls hn hd hP hS
  have L5 : ∀ (x1_L5 : Int32) (x2_L5 : Int32) (n : Nat) (x3_L5 : Int32) (x4_L5 : Int32) (tt0 : Int32) (H : Heap) (locs : List Loc) (ls : Array Slot), fX5_pullIn_L5 g x1_L5 x2_L5 q0 n x3_L5 x4_L5 = some tt0 → WD D A [(a_q0, .inl (cI, 45, .inl q0))] H → va_S A s.heap H locs → lv_has ls 5 [(0, .ref a_q0), (1, .int x1_L5), (2, .int x2_L5), (3, .int x3_L5), (4, .int x4_L5)] → (∀ (H : Heap) (locs : List Loc) (ls : Array Slot), WD D A [(a_q0, .inl (cI, 45, .inl q0))] H → va_S A s.heap H locs → lv_has ls 5 [(3, .int tt0)] → W p l e rmX5_pullIn s m args below meth c H locs 0 0 Q (F0 m 63 ls [])) → W p l e rmX5_pullIn s m args below meth c H locs 0 0 Q (F0 m 5 ls []) := by
    intro x1_L5 x2_L5 n
    induction n with
    | zero =>
      intro x3_L5 x4_L5 tt0 H locs ls h
      exact (no_some h).elim
    | succ n ih =>
      intro x3_L5 x4_L5 tt0 H locs ls h hP hS hl kE
      have h : fX5_pullIn_L5_b g x1_L5 x2_L5 q0 (fX5_pullIn_L5 g x1_L5 x2_L5 q0 n) x3_L5 x4_L5 = some tt0 := h
      unfold fX5_pullIn_L5_b at h
      refine lv_iload hx hb dX5_pullIn_5 (lv_at hl 4 rfl) ?_
      refine lv_aload_n hx hb dX5_pullIn_7 rfl (lv_at hl 0 rfl) ?_
      refine lv_iconst (v := 1) hx hb dX5_pullIn_8 (by decide) ?_
      refine r_ia F hP 0 rfl (j := 1) rfl (by decide) dX5_pullIn_9 ?_
      refine lv_icmp_ge (tgt := 63) hx hb dX5_pullIn_10 (by decide) (fun hc2 => ?_) (fun hc2 => ?_)
      · have h := it_p hc2 h
        cases h
        exact kE H locs ls hP hS (lv_sub hl [3] rfl)
      · have h := it_n hc2 h
        refine lv_iload hx hb dX5_pullIn_13 (lv_at hl 4 rfl) ?_
        refine lv_iload_n hx hb dX5_pullIn_15 rfl (lv_at hl 2 rfl) ?_
        refine lv_icmp_eq (tgt := 57) hx hb dX5_pullIn_16 (by decide) (fun hc3 => ?_) (fun hc3 => ?_)
        · have h := it_p hc3 h
          refine lv_iinc (v := x4_L5 + 1) (lv' := [(4, .int (x4_L5 + 1)), (0, .ref a_q0), (1, .int x1_L5), (2, .int x2_L5), (3, .int x3_L5)]) hx hb dX5_pullIn_57 hl (k := 4) rfl rfl (by decide) rfl (fun ls hl => ?_)
          refine lv_goto (tgt := 5) hx hb dX5_pullIn_60 (by decide) ?_
          exact ih x3_L5 (x4_L5 + 1) tt0 H locs ls h hP hS (lv_sub hl [1, 2, 3, 4, 0] rfl) kE
        · have h := it_n hc3 h
          refine lv_aload_n hx hb dX5_pullIn_19 rfl (lv_at hl 0 rfl) ?_
          refine lv_iload hx hb dX5_pullIn_20 (lv_at hl 4 rfl) ?_
          obtain ⟨r4, hk5, h⟩ := bd1_e h
          refine cS_i (rest := []) F (kX5_isAboard l D cI cJ H.size g a_q0 q0 x4_L5 r4 hk5) (va_cwS 2 hts gX5_pullIn_X5_isAboard rfl rfl rfl eSX5_isAboard ⟨Nat.le_of_ble_eq_true rfl, Nat.le_of_ble_eq_true rfl⟩) [0] hP hS (by decide) rfl rfl rfl hl.1 (Nat.le_of_ble_eq_true rfl) ⟨Nat.le_refl _, Nat.le_refl _⟩ rfl dX5_pullIn_22 (fun H locs hP hS => ?_)
          have hP : WD D A [(a_q0, .inl (cI, 45, .inl q0))] H := hP
          refine lv_if_eq (tgt := 57) hx hb dX5_pullIn_25 (by decide) (fun hc6 => ?_) (fun hc6 => ?_)
          · have h := it_p hc6 h
            refine lv_iinc (v := x4_L5 + 1) (lv' := [(4, .int (x4_L5 + 1)), (0, .ref a_q0), (1, .int x1_L5), (2, .int x2_L5), (3, .int x3_L5)]) hx hb dX5_pullIn_57 hl (k := 4) rfl rfl (by decide) rfl (fun ls hl => ?_)
            refine lv_goto (tgt := 5) hx hb dX5_pullIn_60 (by decide) ?_
            exact ih x3_L5 (x4_L5 + 1) tt0 H locs ls h hP hS (lv_sub hl [1, 2, 3, 4, 0] rfl) kE
          · have h := it_n hc6 h
            refine lv_iload_n hx hb dX5_pullIn_28 rfl (lv_at hl 3 rfl) ?_
            refine lv_aload_n hx hb dX5_pullIn_29 rfl (lv_at hl 0 rfl) ?_
            refine lv_iload hx hb dX5_pullIn_30 (lv_at hl 4 rfl) ?_
            obtain ⟨r7, hk8, h⟩ := bd1_e h
            refine cS_i (rest := [.int x3_L5]) F (kX5_leansIn l D cI cJ H.size g a_q0 q0 x4_L5 r7 hk8) (va_cwS 2 hts gX5_pullIn_X5_leansIn rfl rfl rfl eSX5_leansIn ⟨Nat.le_of_ble_eq_true rfl, Nat.le_of_ble_eq_true rfl⟩) [0] hP hS (by decide) rfl rfl rfl hl.1 (Nat.le_of_ble_eq_true rfl) ⟨Nat.le_refl _, Nat.le_refl _⟩ rfl dX5_pullIn_32 (fun H locs hP hS => ?_)
            have hP : WD D A [(a_q0, .inl (cI, 45, .inl q0))] H := hP
            refine lv_iload_n hx hb dX5_pullIn_35 rfl (lv_at hl 1 rfl) ?_
            refine lv_if_ne (tgt := 48) hx hb dX5_pullIn_36 (by decide) (fun hc9 => ?_) (fun hc9 => ?_)
            · have h := it_n hc9 h
              refine lv_aload_n hx hb dX5_pullIn_48 rfl (lv_at hl 0 rfl) ?_
              refine lv_iload hx hb dX5_pullIn_49 (lv_at hl 4 rfl) ?_
              obtain ⟨r10, hk11, h⟩ := bd1_e h
              refine cS_i (rest := [.int r7, .int x3_L5]) F (kX5_columnsOff l D cI cJ H.size g a_q0 q0 x4_L5 r10 hk11) (va_cwS 2 hts gX5_pullIn_X5_columnsOff rfl rfl rfl eSX5_columnsOff ⟨Nat.le_of_ble_eq_true rfl, Nat.le_of_ble_eq_true rfl⟩) [0] hP hS (by decide) rfl rfl rfl hl.1 (Nat.le_of_ble_eq_true rfl) ⟨Nat.le_refl _, Nat.le_refl _⟩ rfl dX5_pullIn_51 (fun H locs hP hS => ?_)
              have hP : WD D A [(a_q0, .inl (cI, 45, .inl q0))] H := hP
              refine lv_imul hx hb dX5_pullIn_54 ?_
              refine lv_iadd hx hb dX5_pullIn_55 ?_
              refine lv_istore_n (lv' := [(3, .int (x3_L5 + (r7 * r10))), (0, .ref a_q0), (1, .int x1_L5), (2, .int x2_L5), (4, .int x4_L5)]) hx hb dX5_pullIn_56 rfl hl (by decide) rfl (fun ls hl => ?_)
              refine lv_iinc (v := x4_L5 + 1) (lv' := [(4, .int (x4_L5 + 1)), (3, .int (x3_L5 + (r7 * r10))), (0, .ref a_q0), (1, .int x1_L5), (2, .int x2_L5)]) hx hb dX5_pullIn_57 hl (k := 4) rfl rfl (by decide) rfl (fun ls hl => ?_)
              refine lv_goto (tgt := 5) hx hb dX5_pullIn_60 (by decide) ?_
              exact ih (x3_L5 + (r7 * r10)) (x4_L5 + 1) tt0 H locs ls h hP hS (lv_sub hl [2, 3, 4, 1, 0] rfl) kE
            · have h := it_p hc9 h
              refine lv_aload_n hx hb dX5_pullIn_39 rfl (lv_at hl 0 rfl) ?_
              refine lv_iload hx hb dX5_pullIn_40 (lv_at hl 4 rfl) ?_
              obtain ⟨r12, hk13, h⟩ := bd1_e h
              refine cS_i (rest := [.int r7, .int x3_L5]) F (kX5_rowsOff l D cI cJ H.size g a_q0 q0 x4_L5 r12 hk13) (va_cwS 2 hts gX5_pullIn_X5_rowsOff rfl rfl rfl eSX5_rowsOff ⟨Nat.le_of_ble_eq_true rfl, Nat.le_of_ble_eq_true rfl⟩) [0] hP hS (by decide) rfl rfl rfl hl.1 (Nat.le_of_ble_eq_true rfl) ⟨Nat.le_refl _, Nat.le_refl _⟩ rfl dX5_pullIn_42 (fun H locs hP hS => ?_)
              have hP : WD D A [(a_q0, .inl (cI, 45, .inl q0))] H := hP
              refine lv_goto (tgt := 54) hx hb dX5_pullIn_45 (by decide) ?_
              refine lv_imul hx hb dX5_pullIn_54 ?_
              refine lv_iadd hx hb dX5_pullIn_55 ?_
              refine lv_istore_n (lv' := [(3, .int (x3_L5 + (r7 * r12))), (0, .ref a_q0), (1, .int x1_L5), (2, .int x2_L5), (4, .int x4_L5)]) hx hb dX5_pullIn_56 rfl hl (by decide) rfl (fun ls hl => ?_)
              refine lv_iinc (v := x4_L5 + 1) (lv' := [(4, .int (x4_L5 + 1)), (3, .int (x3_L5 + (r7 * r12))), (0, .ref a_q0), (1, .int x1_L5), (2, .int x2_L5)]) hx hb dX5_pullIn_57 hl (k := 4) rfl rfl (by decide) rfl (fun ls hl => ?_)
              refine lv_goto (tgt := 5) hx hb dX5_pullIn_60 (by decide) ?_
              exact ih (x3_L5 + (r7 * r12)) (x4_L5 + 1) tt0 H locs ls h hP hS (lv_sub hl [2, 3, 4, 1, 0] rfl) kE
  have hl : lv_has ls 5 [(0, .ref a_q0), (1, .int p1), (2, .int p2)] := hl
  have h := hf
  unfold fX5_pullIn at h
  refine lv_iconst (v := 0) hx hb dX5_pullIn_0 (by decide) ?_
  refine lv_istore_n (lv' := [(3, .int 0), (0, .ref a_q0), (1, .int p1), (2, .int p2)]) hx hb dX5_pullIn_1 rfl hl (by decide) rfl (fun ls hl => ?_)
  refine lv_iconst (v := 0) hx hb dX5_pullIn_2 (by decide) ?_
  refine lv_istore (lv' := [(4, .int 0), (3, .int 0), (0, .ref a_q0), (1, .int p1), (2, .int p2)]) hx hb dX5_pullIn_3 hl (by decide) rfl (fun ls hl => ?_)
  obtain ⟨t14, hk15, h⟩ := bd1_e h
  refine L5 p1 p2 g 0 0 t14 H locs ls hk15 hP hS (lv_sub hl [2, 3, 4, 1, 0] rfl) (fun H locs ls hP hS hl => ?_)
  refine lv_iload_n hx hb dX5_pullIn_63 rfl (lv_at hl 0 rfl) ?_
  exact hret 64 H locs ls t14 h rfl dX5_pullIn_64 hP hS
theorem eSX5_needleIn : yX5_needleIn.cls ≠ "java/lang/invoke/MethodHandle" ∧ yX5_needleIn.cls ≠ "java/lang/invoke/VarHandle" ∧ (parseMethodDescriptor yX5_needleIn.desc).map (fun d => d.parameters.length) = some 2 := by decide +kernel
theorem eVX5_needleIn : yX5_needleIn.cls = RX5 ∧ yX5_needleIn.cls ≠ "java/lang/invoke/MethodHandle" ∧ yX5_needleIn.cls ≠ "java/lang/invoke/VarHandle" ∧ (parseMethodDescriptor yX5_needleIn.desc).map (fun d => d.parameters.length) = some 2 := ⟨rfl, eSX5_needleIn⟩
abbrev rmX5_needleIn : Room := { frames := 4, cells := 0, slots := 0, locals := 89 }
def fX5_needleIn (g : Nat) (p1 : Int32) (q0 : Nat → Int32) : Option (Int32) := bd1 (fX5_pullIn g 0 p1 q0) fun r13 => (bd1 (fX5_pullIn g 1 p1 q0) fun r15 => (bd1 (fX5_far g r13) fun r17 => (bd1 (fX5_far g r15) fun r19 => (if r17 ≤ r19 then (if r15 ≤ 0 then (if 0 ≤ r15 then (some (-9)) else (some 3)) else (some 1)) else (if 0 ≤ r13 then (some 2) else (some 0))))))
set_option maxHeartbeats 4000000 in
set_option maxRecDepth 100000 in
theorem kX5_needleIn (l : Launch) (D : va_G) (cI cJ : ClassId) (sz g : Nat) (a_q0 : Nat) (q0 : Nat → Int32) (p1 : Int32) (r : Int32) (hf : fX5_needleIn g p1 q0 = some r) : Met l yX5_needleIn wsX5_needleIn rmX5_needleIn (va_Pc [.ref a_q0, .int p1] (sPc D (tyL cI cJ) [(a_q0, .inl (cI, 45, .inl q0))] sz)) (qI D (tyL cI cJ) [(a_q0, .inl (cI, 45, .inl q0))] sz [(a_q0, .inl (cI, 45, .inl q0))] r) 0 0 (va_A [(a_q0, .inl (cI, 45, .inl q0))] sz) := by
  refine st_i (cc := cX5_needleIn) (maxL := 4) (by decide) rfl (Nat.le_of_ble_eq_true rfl) ?_
  intro p e s m args below meth c A Q F hret0 H locs hP hS ls hl
  have F : Cx p s m args c cX5_needleIn 4 wsX5_needleIn RX5 D (tyL cI cJ) A := F
  have hx := F.1.1
  have hb := F.1.2.1
  have hown := F.1.2.2.2.1
  have hts := F.1.2.2.2.2
  have hret : ∀ (pc : Nat) (H : Heap) (locs : List Loc) (ls : Array Slot) (r' : Int32), some r' = some r → narrow .int (.int r') = .int r' → decode cX5_needleIn pc = .ok (.ireturn, 1) → WD D A [(a_q0, .inl (cI, 45, .inl q0))] H → va_S A s.heap H locs → W p l e rmX5_needleIn s m args below meth c H locs 0 0 Q (F0 m pc ls [.int r']) := by
    intro pc H locs ls r' h hn hd hP hS
    cases h
    exact hret0 pc H locs ls hn hd hP hS
  have hl : lv_has ls 4 [(0, .ref a_q0), (1, .int p1)] := hl
  have h := hf
  unfold fX5_needleIn at h
  refine lv_aload_n hx hb dX5_needleIn_0 rfl (lv_at hl 0 rfl) ?_
  refine lv_iconst (v := 0) hx hb dX5_needleIn_1 (by decide) ?_
  refine lv_iload_n hx hb dX5_needleIn_2 rfl (lv_at hl 1 rfl) ?_
  obtain ⟨r13, hk14, h⟩ := bd1_e h
  refine cS_i (rest := []) F (kX5_pullIn l D cI cJ H.size g a_q0 q0 0 p1 r13 hk14) (va_cwS 3 hts gX5_needleIn_X5_pullIn rfl rfl rfl eSX5_pullIn ⟨Nat.le_of_ble_eq_true rfl, Nat.le_of_ble_eq_true rfl⟩) [0] hP hS (by decide) rfl rfl rfl hl.1 (Nat.le_of_ble_eq_true rfl) ⟨Nat.le_refl _, Nat.le_refl _⟩ rfl dX5_needleIn_3 (fun H locs hP hS => ?_)
  have hP : WD D A [(a_q0, .inl (cI, 45, .inl q0))] H := hP
  refine lv_istore_n (lv' := [(2, .int r13), (0, .ref a_q0), (1, .int p1)]) hx hb dX5_needleIn_6 rfl hl (by decide) rfl (fun ls hl => ?_)
  refine lv_aload_n hx hb dX5_needleIn_7 rfl (lv_at hl 1 rfl) ?_
  refine lv_iconst (v := 1) hx hb dX5_needleIn_8 (by decide) ?_
  refine lv_iload_n hx hb dX5_needleIn_9 rfl (lv_at hl 2 rfl) ?_
  obtain ⟨r15, hk16, h⟩ := bd1_e h
  refine cS_i (rest := []) F (kX5_pullIn l D cI cJ H.size g a_q0 q0 1 p1 r15 hk16) (va_cwS 3 hts gX5_needleIn_X5_pullIn rfl rfl rfl eSX5_pullIn ⟨Nat.le_of_ble_eq_true rfl, Nat.le_of_ble_eq_true rfl⟩) [0] hP hS (by decide) rfl rfl rfl hl.1 (Nat.le_of_ble_eq_true rfl) ⟨Nat.le_refl _, Nat.le_refl _⟩ rfl dX5_needleIn_10 (fun H locs hP hS => ?_)
  have hP : WD D A [(a_q0, .inl (cI, 45, .inl q0))] H := hP
  refine lv_istore_n (lv' := [(3, .int r15), (2, .int r13), (0, .ref a_q0), (1, .int p1)]) hx hb dX5_needleIn_13 rfl hl (by decide) rfl (fun ls hl => ?_)
  refine lv_iload_n hx hb dX5_needleIn_14 rfl (lv_at hl 1 rfl) ?_
  obtain ⟨r17, hk18, h⟩ := bd1_e h
  refine cS_i (rest := []) F (kX5_far l D cI cJ H.size g r13 r17 hk18) (va_cwS 1 hts gX5_needleIn_X5_far rfl rfl rfl eSX5_far ⟨Nat.le_of_ble_eq_true rfl, Nat.le_of_ble_eq_true rfl⟩) [] hP hS (by decide) rfl rfl rfl hl.1 (Nat.le_of_ble_eq_true rfl) ⟨Nat.le_refl _, Nat.le_refl _⟩ rfl dX5_needleIn_15 (fun H locs hP hS => ?_)
  have hP : WD D A [(a_q0, .inl (cI, 45, .inl q0))] H := hP
  refine lv_iload_n hx hb dX5_needleIn_18 rfl (lv_at hl 0 rfl) ?_
  obtain ⟨r19, hk20, h⟩ := bd1_e h
  refine cS_i (rest := [.int r17]) F (kX5_far l D cI cJ H.size g r15 r19 hk20) (va_cwS 1 hts gX5_needleIn_X5_far rfl rfl rfl eSX5_far ⟨Nat.le_of_ble_eq_true rfl, Nat.le_of_ble_eq_true rfl⟩) [] hP hS (by decide) rfl rfl rfl hl.1 (Nat.le_of_ble_eq_true rfl) ⟨Nat.le_refl _, Nat.le_refl _⟩ rfl dX5_needleIn_19 (fun H locs hP hS => ?_)
  have hP : WD D A [(a_q0, .inl (cI, 45, .inl q0))] H := hP
  refine lv_icmp_le (tgt := 35) hx hb dX5_needleIn_22 (by decide) (fun hc21 => ?_) (fun hc21 => ?_)
  · have h := it_p hc21 h
    refine lv_iload_n hx hb dX5_needleIn_35 rfl (lv_at hl 0 rfl) ?_
    refine lv_if_le (tgt := 43) hx hb dX5_needleIn_36 (by decide) (fun hc22 => ?_) (fun hc22 => ?_)
    · have h := it_p hc22 h
      refine lv_iload_n hx hb dX5_needleIn_43 rfl (lv_at hl 0 rfl) ?_
      refine lv_if_ge (tgt := 51) hx hb dX5_needleIn_44 (by decide) (fun hc23 => ?_) (fun hc23 => ?_)
      · have h := it_p hc23 h
        refine lv_bipush (v := (-9)) hx hb dX5_needleIn_51 (by decide) ?_
        exact hret 53 H locs ls (-9) h rfl dX5_needleIn_53 hP hS
      · have h := it_n hc23 h
        refine lv_iconst (v := 3) hx hb dX5_needleIn_47 (by decide) ?_
        refine lv_goto (tgt := 53) hx hb dX5_needleIn_48 (by decide) ?_
        exact hret 53 H locs ls 3 h rfl dX5_needleIn_53 hP hS
    · have h := it_n hc22 h
      refine lv_iconst (v := 1) hx hb dX5_needleIn_39 (by decide) ?_
      refine lv_goto (tgt := 53) hx hb dX5_needleIn_40 (by decide) ?_
      exact hret 53 H locs ls 1 h rfl dX5_needleIn_53 hP hS
  · have h := it_n hc21 h
    refine lv_iload_n hx hb dX5_needleIn_25 rfl (lv_at hl 1 rfl) ?_
    refine lv_if_ge (tgt := 33) hx hb dX5_needleIn_26 (by decide) (fun hc24 => ?_) (fun hc24 => ?_)
    · have h := it_p hc24 h
      refine lv_iconst (v := 2) hx hb dX5_needleIn_33 (by decide) ?_
      exact hret 34 H locs ls 2 h rfl dX5_needleIn_34 hP hS
    · have h := it_n hc24 h
      refine lv_iconst (v := 0) hx hb dX5_needleIn_29 (by decide) ?_
      refine lv_goto (tgt := 34) hx hb dX5_needleIn_30 (by decide) ?_
      exact hret 34 H locs ls 0 h rfl dX5_needleIn_34 hP hS
theorem eSX5_wayFrom : yX5_wayFrom.cls ≠ "java/lang/invoke/MethodHandle" ∧ yX5_wayFrom.cls ≠ "java/lang/invoke/VarHandle" ∧ (parseMethodDescriptor yX5_wayFrom.desc).map (fun d => d.parameters.length) = some 2 := by decide +kernel
theorem eVX5_wayFrom : yX5_wayFrom.cls = RX5 ∧ yX5_wayFrom.cls ≠ "java/lang/invoke/MethodHandle" ∧ yX5_wayFrom.cls ≠ "java/lang/invoke/VarHandle" ∧ (parseMethodDescriptor yX5_wayFrom.desc).map (fun d => d.parameters.length) = some 2 := ⟨rfl, eSX5_wayFrom⟩
abbrev rmX5_wayFrom : Room := { frames := 0, cells := 0, slots := 0, locals := 0 }
def fX5_wayFrom (g : Nat) (p0 : Int32) (p1 : Int32) : Option (Int32) := if p1 = 0 then (if 8 ≤ p0 then (some (p0 - 8)) else (some p0)) else (if p1 = 1 then (if (p0 - p0 / 8 * 8) = 7 then (some p0) else (some (p0 + 1))) else (if p1 = 2 then (if p0 < 56 then (some (p0 + 8)) else (some p0)) else (if p1 = 3 then (if (p0 - p0 / 8 * 8) = 0 then (some p0) else (some (p0 - 1))) else (some p0))))
set_option maxHeartbeats 4000000 in
set_option maxRecDepth 100000 in
theorem kX5_wayFrom (l : Launch) (D : va_G) (cI cJ : ClassId) (sz g : Nat) (p0 : Int32) (p1 : Int32) (r : Int32) (hf : fX5_wayFrom g p0 p1 = some r) : Met l yX5_wayFrom wsX5_wayFrom rmX5_wayFrom (va_Pc [.int p0, .int p1] (sPc D (tyL cI cJ) [] sz)) (qI D (tyL cI cJ) [] sz [] r) 0 0 (va_A [] sz) := by
  refine st_i (cc := cX5_wayFrom) (maxL := 2) (by decide) rfl (Nat.le_of_ble_eq_true rfl) ?_
  intro p e s m args below meth c A Q F hret0 H locs hP hS ls hl
  have F : Cx p s m args c cX5_wayFrom 2 wsX5_wayFrom RX5 D (tyL cI cJ) A := F
  have hx := F.1.1
  have hb := F.1.2.1
  have hown := F.1.2.2.2.1
  have hts := F.1.2.2.2.2
  have hret : ∀ (pc : Nat) (H : Heap) (locs : List Loc) (ls : Array Slot) (r' : Int32), some r' = some r → narrow .int (.int r') = .int r' → decode cX5_wayFrom pc = .ok (.ireturn, 1) → WD D A [] H → va_S A s.heap H locs → W p l e rmX5_wayFrom s m args below meth c H locs 0 0 Q (F0 m pc ls [.int r']) := by
    intro pc H locs ls r' h hn hd hP hS
    cases h
    exact hret0 pc H locs ls hn hd hP hS
  have hl : lv_has ls 2 [(0, .int p0), (1, .int p1)] := hl
  have h := hf
  unfold fX5_wayFrom at h
  refine lv_iload_n hx hb dX5_wayFrom_0 rfl (lv_at hl 1 rfl) ?_
  by_cases hc9 : p1 = 0
  · have h := it_p hc9 h
    refine lv_tableIn (off := 31) (tgt := 32) hx hb dX5_wayFrom_1 (by rw [hc9]; decide) (by rw [hc9]; decide) (by rw [hc9]; rfl) (by decide) ?_
    refine lv_iload_n hx hb dX5_wayFrom_32 rfl (lv_at hl 0 rfl) ?_
    refine lv_bipush (v := 8) hx hb dX5_wayFrom_33 (by decide) ?_
    refine lv_icmp_ge (tgt := 42) hx hb dX5_wayFrom_35 (by decide) (fun hc16 => ?_) (fun hc16 => ?_)
    · have h := it_p hc16 h
      refine lv_iload_n hx hb dX5_wayFrom_42 rfl (lv_at hl 0 rfl) ?_
      refine lv_bipush (v := 8) hx hb dX5_wayFrom_43 (by decide) ?_
      refine lv_isub hx hb dX5_wayFrom_45 ?_
      exact hret 46 H locs ls (p0 - 8) h rfl dX5_wayFrom_46 hP hS
    · have h := it_n hc16 h
      refine lv_iload_n hx hb dX5_wayFrom_38 rfl (lv_at hl 0 rfl) ?_
      refine lv_goto (tgt := 46) hx hb dX5_wayFrom_39 (by decide) ?_
      exact hret 46 H locs ls p0 h rfl dX5_wayFrom_46 hP hS
  · have h := it_n hc9 h
    by_cases hc10 : p1 = 1
    · have h := it_p hc10 h
      refine lv_tableIn (off := 46) (tgt := 47) hx hb dX5_wayFrom_1 (by rw [hc10]; decide) (by rw [hc10]; decide) (by rw [hc10]; rfl) (by decide) ?_
      refine lv_iload_n hx hb dX5_wayFrom_47 rfl (lv_at hl 0 rfl) ?_
      refine lv_bipush (v := 8) hx hb dX5_wayFrom_48 (by decide) ?_
      refine lv_irem hx hb dX5_wayFrom_50 (by decide) ?_
      refine lv_bipush (v := 7) hx hb dX5_wayFrom_51 (by decide) ?_
      refine lv_icmp_ne (tgt := 60) hx hb dX5_wayFrom_53 (by decide) (fun hc15 => ?_) (fun hc15 => ?_)
      · have h := it_n hc15 h
        refine lv_iload_n hx hb dX5_wayFrom_60 rfl (lv_at hl 0 rfl) ?_
        refine lv_iconst (v := 1) hx hb dX5_wayFrom_61 (by decide) ?_
        refine lv_iadd hx hb dX5_wayFrom_62 ?_
        exact hret 63 H locs ls (p0 + 1) h rfl dX5_wayFrom_63 hP hS
      · have h := it_p hc15 h
        refine lv_iload_n hx hb dX5_wayFrom_56 rfl (lv_at hl 0 rfl) ?_
        refine lv_goto (tgt := 63) hx hb dX5_wayFrom_57 (by decide) ?_
        exact hret 63 H locs ls p0 h rfl dX5_wayFrom_63 hP hS
    · have h := it_n hc10 h
      by_cases hc11 : p1 = 2
      · have h := it_p hc11 h
        refine lv_tableIn (off := 63) (tgt := 64) hx hb dX5_wayFrom_1 (by rw [hc11]; decide) (by rw [hc11]; decide) (by rw [hc11]; rfl) (by decide) ?_
        refine lv_iload_n hx hb dX5_wayFrom_64 rfl (lv_at hl 0 rfl) ?_
        refine lv_bipush (v := 56) hx hb dX5_wayFrom_65 (by decide) ?_
        refine lv_icmp_lt (tgt := 74) hx hb dX5_wayFrom_67 (by decide) (fun hc14 => ?_) (fun hc14 => ?_)
        · have h := it_p hc14 h
          refine lv_iload_n hx hb dX5_wayFrom_74 rfl (lv_at hl 0 rfl) ?_
          refine lv_bipush (v := 8) hx hb dX5_wayFrom_75 (by decide) ?_
          refine lv_iadd hx hb dX5_wayFrom_77 ?_
          exact hret 78 H locs ls (p0 + 8) h rfl dX5_wayFrom_78 hP hS
        · have h := it_n hc14 h
          refine lv_iload_n hx hb dX5_wayFrom_70 rfl (lv_at hl 0 rfl) ?_
          refine lv_goto (tgt := 78) hx hb dX5_wayFrom_71 (by decide) ?_
          exact hret 78 H locs ls p0 h rfl dX5_wayFrom_78 hP hS
      · have h := it_n hc11 h
        by_cases hc12 : p1 = 3
        · have h := it_p hc12 h
          refine lv_tableIn (off := 78) (tgt := 79) hx hb dX5_wayFrom_1 (by rw [hc12]; decide) (by rw [hc12]; decide) (by rw [hc12]; rfl) (by decide) ?_
          refine lv_iload_n hx hb dX5_wayFrom_79 rfl (lv_at hl 0 rfl) ?_
          refine lv_bipush (v := 8) hx hb dX5_wayFrom_80 (by decide) ?_
          refine lv_irem hx hb dX5_wayFrom_82 (by decide) ?_
          refine lv_if_ne (tgt := 90) hx hb dX5_wayFrom_83 (by decide) (fun hc13 => ?_) (fun hc13 => ?_)
          · have h := it_n hc13 h
            refine lv_iload_n hx hb dX5_wayFrom_90 rfl (lv_at hl 0 rfl) ?_
            refine lv_iconst (v := 1) hx hb dX5_wayFrom_91 (by decide) ?_
            refine lv_isub hx hb dX5_wayFrom_92 ?_
            exact hret 93 H locs ls (p0 - 1) h rfl dX5_wayFrom_93 hP hS
          · have h := it_p hc13 h
            refine lv_iload_n hx hb dX5_wayFrom_86 rfl (lv_at hl 0 rfl) ?_
            refine lv_goto (tgt := 93) hx hb dX5_wayFrom_87 (by decide) ?_
            exact hret 93 H locs ls p0 h rfl dX5_wayFrom_93 hP hS
        · have h := it_n hc12 h
          refine lv_tabD (tgt := 94) [0, 1, 2, 3] hx hb dX5_wayFrom_1 (by decide) (by decide) (List.forall_mem_cons.mpr ⟨lv_neT hc9 (by decide), List.forall_mem_cons.mpr ⟨lv_neT hc10 (by decide), List.forall_mem_cons.mpr ⟨lv_neT hc11 (by decide), List.forall_mem_cons.mpr ⟨lv_neT hc12 (by decide), fun _ h9 => absurd h9 List.not_mem_nil⟩⟩⟩⟩) (by decide) ?_
          refine lv_iload_n hx hb dX5_wayFrom_94 rfl (lv_at hl 0 rfl) ?_
          exact hret 95 H locs ls p0 h rfl dX5_wayFrom_95 hP hS
