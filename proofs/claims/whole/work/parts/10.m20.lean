theorem eSX5_row : yX5_row.cls ≠ "java/lang/invoke/MethodHandle" ∧ yX5_row.cls ≠ "java/lang/invoke/VarHandle" ∧ (parseMethodDescriptor yX5_row.desc).map (fun d => d.parameters.length) = some 1 := by decide +kernel
theorem eVX5_row : yX5_row.cls = RX5 ∧ yX5_row.cls ≠ "java/lang/invoke/MethodHandle" ∧ yX5_row.cls ≠ "java/lang/invoke/VarHandle" ∧ (parseMethodDescriptor yX5_row.desc).map (fun d => d.parameters.length) = some 1 := ⟨rfl, eSX5_row⟩
abbrev rmX5_row : Room := { frames := 1, cells := 0, slots := 0, locals := 22 }
def fX5_row (g : Nat) (p0 : Int32) (z_rowMany : Int32) (z_row : Nat → Int32) (z_refused : Nat → Int32) : Option (Int32 × Int32 × (Nat → Int32) × (Nat → Int32)) := bd1 (fX5_wrongBy g p0 0 99) fun r20 => (if r20 = 0 then (if z_rowMany = 16 then (if ((-6) : Int32) = 0 then (gd (inB z_rowMany 16) (some (z_rowMany + 1, z_rowMany + 1, upd z_row z_rowMany.toNatClampNeg p0, z_refused))) else (bd2 (fX5_no g (-6) z_refused) fun r36 z_refused_37 => (some (r36, z_rowMany, z_row, z_refused_37)))) else (if r20 = 0 then (gd (inB z_rowMany 16) (some (z_rowMany + 1, z_rowMany + 1, upd z_row z_rowMany.toNatClampNeg p0, z_refused))) else (bd2 (fX5_no g r20 z_refused) fun r31 z_refused_32 => (some (r31, z_rowMany, z_row, z_refused_32))))) else (if r20 = 0 then (gd (inB z_rowMany 16) (some (z_rowMany + 1, z_rowMany + 1, upd z_row z_rowMany.toNatClampNeg p0, z_refused))) else (bd2 (fX5_no g r20 z_refused) fun r25 z_refused_26 => (some (r25, z_rowMany, z_row, z_refused_26)))))
set_option maxHeartbeats 4000000 in
set_option maxRecDepth 100000 in
theorem kX5_row (l : Launch) (D : va_G) (cI cJ : ClassId) (sz g : Nat) (a_z a_z_s a_z_m a_z_image a_z_was a_z_letters a_z_row a_z_refused a_z_numbers : Nat) (z_hasImage : Int32) (z_letterMany : Int32) (z_rowMany : Int32) (z_reading : Int32) (z_seed : Int32) (z_row : Nat → Int32) (z_refused : Nat → Int32) (p0 : Int32) (r : Int32) (n_z_rowMany : Int32) (n_z_row : Nat → Int32) (n_z_refused : Nat → Int32) (hf : fX5_row g p0 z_rowMany z_row z_refused = some (r, n_z_rowMany, n_z_row, n_z_refused)) : Met l yX5_row wsX5_row rmX5_row (va_Pc [.ref a_z, .int p0] (sPc D (tyL cI cJ) [(a_z, .inr (5, [.ref a_z_s, .ref a_z_m, .ref a_z_image, .ref a_z_was, .int z_hasImage, .ref a_z_letters, .ref a_z_row, .ref a_z_refused, .int z_letterMany, .int z_rowMany, .int z_reading, .ref a_z_numbers, .int z_seed])), (a_z_row, .inl (cI, 16, .inl z_row)), (a_z_refused, .inl (cI, 7, .inl z_refused))] sz)) (qI D (tyL cI cJ) [(a_z, .inr (5, [.ref a_z_s, .ref a_z_m, .ref a_z_image, .ref a_z_was, .int z_hasImage, .ref a_z_letters, .ref a_z_row, .ref a_z_refused, .int z_letterMany, .int z_rowMany, .int z_reading, .ref a_z_numbers, .int z_seed])), (a_z_row, .inl (cI, 16, .inl z_row)), (a_z_refused, .inl (cI, 7, .inl z_refused))] sz [(a_z, .inr (5, [.ref a_z_s, .ref a_z_m, .ref a_z_image, .ref a_z_was, .int z_hasImage, .ref a_z_letters, .ref a_z_row, .ref a_z_refused, .int z_letterMany, .int n_z_rowMany, .int z_reading, .ref a_z_numbers, .int z_seed])), (a_z_row, .inl (cI, 16, .inl n_z_row)), (a_z_refused, .inl (cI, 7, .inl n_z_refused))] r) 0 0 (va_A [(a_z, .inr (5, [.ref a_z_s, .ref a_z_m, .ref a_z_image, .ref a_z_was, .int z_hasImage, .ref a_z_letters, .ref a_z_row, .ref a_z_refused, .int z_letterMany, .int z_rowMany, .int z_reading, .ref a_z_numbers, .int z_seed])), (a_z_row, .inl (cI, 16, .inl z_row)), (a_z_refused, .inl (cI, 7, .inl z_refused))] sz) := by
  refine st_i (cc := cX5_row) (maxL := 3) (by decide) rfl (Nat.le_of_ble_eq_true rfl) ?_
  intro p e s m args below meth c A Q F hret0 H locs hP hS ls hl
  have F : Cx p s m args c cX5_row 3 wsX5_row RX5 D (tyL cI cJ) A := F
  have hx := F.1.1
  have hb := F.1.2.1
  have hown := F.1.2.2.2.1
  have hts := F.1.2.2.2.2
  have iX5 : ∀ w ∈ wsX50, w ∈ wsX5_row := fun w h => (List.mem_cons_of_mem _ (List.mem_append_right _ h))
  have hret : ∀ (pc : Nat) (H : Heap) (locs : List Loc) (ls : Array Slot) (r' : Int32) (m_z_rowMany : Int32) (m_z_row : Nat → Int32) (m_z_refused : Nat → Int32), some (r', m_z_rowMany, m_z_row, m_z_refused) = some (r, n_z_rowMany, n_z_row, n_z_refused) → narrow .int (.int r') = .int r' → decode cX5_row pc = .ok (.ireturn, 1) → WD D A [(a_z, .inr (5, [.ref a_z_s, .ref a_z_m, .ref a_z_image, .ref a_z_was, .int z_hasImage, .ref a_z_letters, .ref a_z_row, .ref a_z_refused, .int z_letterMany, .int m_z_rowMany, .int z_reading, .ref a_z_numbers, .int z_seed])), (a_z_row, .inl (cI, 16, .inl m_z_row)), (a_z_refused, .inl (cI, 7, .inl m_z_refused))] H → va_S A s.heap H locs → W p l e rmX5_row s m args below meth c H locs 0 0 Q (F0 m pc ls [.int r']) := by
    intro pc H locs ls r' m_z_rowMany m_z_row m_z_refused h hn hd hP hS
    cases h
    exact hret0 pc H locs ls hn hd hP hS
  have hl : lv_has ls 3 [(0, .ref a_z), (1, .int p0)] := hl
  have h := hf
  unfold fX5_row at h
  refine lv_iload_n hx hb dX5_row_0 rfl (lv_at hl 1 rfl) ?_
  refine lv_iconst (v := 0) hx hb dX5_row_1 (by decide) ?_
  refine lv_bipush (v := 99) hx hb dX5_row_2 (by decide) ?_
  obtain ⟨r20, hk21, h⟩ := bd1_e h
  refine cS_i (rest := []) F (kX5_wrongBy l D cI cJ H.size g p0 0 99 r20 hk21) (va_cwS 3 hts gX5_row_X5_wrongBy rfl rfl rfl eSX5_wrongBy ⟨Nat.le_of_ble_eq_true rfl, Nat.le_of_ble_eq_true rfl⟩) [] hP hS (by decide) rfl rfl rfl hl.1 (Nat.le_of_ble_eq_true rfl) ⟨Nat.le_refl _, Nat.le_refl _⟩ rfl dX5_row_4 (fun H locs hP hS => ?_)
  have hP : WD D A [(a_z, .inr (5, [.ref a_z_s, .ref a_z_m, .ref a_z_image, .ref a_z_was, .int z_hasImage, .ref a_z_letters, .ref a_z_row, .ref a_z_refused, .int z_letterMany, .int z_rowMany, .int z_reading, .ref a_z_numbers, .int z_seed])), (a_z_row, .inl (cI, 16, .inl z_row)), (a_z_refused, .inl (cI, 7, .inl z_refused))] H := hP
  refine lv_istore_n (lv' := [(2, .int r20), (0, .ref a_z), (1, .int p0)]) hx hb dX5_row_7 rfl hl (by decide) rfl (fun ls hl => ?_)
  refine lv_iload_n hx hb dX5_row_8 rfl (lv_at hl 0 rfl) ?_
  refine lv_if_ne (tgt := 24) hx hb dX5_row_9 (by decide) (fun hc22 => ?_) (fun hc22 => ?_)
  · have h := it_n hc22 h
    refine lv_iload_n hx hb dX5_row_24 rfl (lv_at hl 0 rfl) ?_
    refine lv_if_eq (tgt := 34) hx hb dX5_row_25 (by decide) (fun hc23 => ?_) (fun hc23 => ?_)
    · have h := it_p hc23 h
      refine lv_aload_n hx hb dX5_row_34 rfl (lv_at hl 1 rfl) ?_
      refine gt_X5_25 F iX5 (List.mem_cons_of_mem _ (List.mem_append_left _ (List.mem_of_getElem? (i := 1) rfl))) hP 0 rfl dX5_row_35 ?_
      refine lv_aload_n hx hb dX5_row_38 rfl (lv_at hl 1 rfl) ?_
      refine gt_X5_201 F iX5 (List.mem_cons_of_mem _ (List.mem_append_left _ (List.mem_of_getElem? (i := 0) rfl))) hP 0 rfl dX5_row_39 ?_
      refine lv_iload_n hx hb dX5_row_42 rfl (lv_at hl 2 rfl) ?_
      obtain ⟨hg24, h⟩ := gd_e h
      refine r_is F hP hS 1 rfl rfl hg24 dX5_row_43 (fun H locs hP hS => ?_)
      have hP : WD D A [(a_z, .inr (5, [.ref a_z_s, .ref a_z_m, .ref a_z_image, .ref a_z_was, .int z_hasImage, .ref a_z_letters, .ref a_z_row, .ref a_z_refused, .int z_letterMany, .int z_rowMany, .int z_reading, .ref a_z_numbers, .int z_seed])), (a_z_row, .inl (cI, 16, .inl (upd z_row z_rowMany.toNatClampNeg p0))), (a_z_refused, .inl (cI, 7, .inl z_refused))] H := hP
      refine lv_aload_n hx hb dX5_row_44 rfl (lv_at hl 1 rfl) ?_
      refine lv_dup hx hb dX5_row_45 rfl ?_
      refine gt_X5_201 F iX5 (List.mem_cons_of_mem _ (List.mem_append_left _ (List.mem_of_getElem? (i := 0) rfl))) hP 0 rfl dX5_row_46 ?_
      refine lv_iconst (v := 1) hx hb dX5_row_49 (by decide) ?_
      refine lv_iadd hx hb dX5_row_50 ?_
      refine pt_X5_201 F iX5 (List.mem_cons_of_mem _ (List.mem_append_left _ (List.mem_of_getElem? (i := 0) rfl))) hP hS 0 rfl dX5_row_51 (fun H locs hP hS => ?_)
      have hP : WD D A [(a_z, .inr (5, [.ref a_z_s, .ref a_z_m, .ref a_z_image, .ref a_z_was, .int z_hasImage, .ref a_z_letters, .ref a_z_row, .ref a_z_refused, .int z_letterMany, .int (z_rowMany + 1), .int z_reading, .ref a_z_numbers, .int z_seed])), (a_z_row, .inl (cI, 16, .inl (upd z_row z_rowMany.toNatClampNeg p0))), (a_z_refused, .inl (cI, 7, .inl z_refused))] H := hP
      refine lv_aload_n hx hb dX5_row_54 rfl (lv_at hl 1 rfl) ?_
      refine gt_X5_201 F iX5 (List.mem_cons_of_mem _ (List.mem_append_left _ (List.mem_of_getElem? (i := 0) rfl))) hP 0 rfl dX5_row_55 ?_
      exact hret 58 H locs ls (z_rowMany + 1) (z_rowMany + 1) (upd z_row z_rowMany.toNatClampNeg p0) z_refused h rfl dX5_row_58 hP hS
    · have h := it_n hc23 h
      refine lv_aload_n hx hb dX5_row_28 rfl (lv_at hl 1 rfl) ?_
      refine lv_iload_n hx hb dX5_row_29 rfl (lv_at hl 0 rfl) ?_
      obtain ⟨r25, z_refused_26, hk27, h⟩ := bd2_e h
      refine cV_i (rest := []) F (kX5_no l D cI cJ H.size g a_z a_z_s a_z_m a_z_image a_z_was a_z_letters a_z_row a_z_refused a_z_numbers z_hasImage z_letterMany z_rowMany z_reading z_seed z_refused r20 r25 z_refused_26 hk27) (cwV 1 hts gX5_row_X5_no rfl rfl rfl eVX5_no ⟨Nat.le_of_ble_eq_true rfl, Nat.le_of_ble_eq_true rfl⟩) [0, 2] hP hS (by decide) rfl rfl 0 rfl rfl rfl hl.1 (Nat.le_of_ble_eq_true rfl) ⟨Nat.le_refl _, Nat.le_refl _⟩ rfl dX5_row_30 (fun H locs hP hS => ?_)
      have hP : WD D A [(a_z, .inr (5, [.ref a_z_s, .ref a_z_m, .ref a_z_image, .ref a_z_was, .int z_hasImage, .ref a_z_letters, .ref a_z_row, .ref a_z_refused, .int z_letterMany, .int z_rowMany, .int z_reading, .ref a_z_numbers, .int z_seed])), (a_z_row, .inl (cI, 16, .inl z_row)), (a_z_refused, .inl (cI, 7, .inl z_refused_26))] H := hP
      exact hret 33 H locs ls r25 z_rowMany z_row z_refused_26 h rfl dX5_row_33 hP hS
  · have h := it_p hc22 h
    refine lv_aload_n hx hb dX5_row_12 rfl (lv_at hl 1 rfl) ?_
    refine gt_X5_201 F iX5 (List.mem_cons_of_mem _ (List.mem_append_left _ (List.mem_of_getElem? (i := 0) rfl))) hP 0 rfl dX5_row_13 ?_
    refine lv_bipush (v := 16) hx hb dX5_row_16 (by decide) ?_
    refine lv_icmp_ne (tgt := 24) hx hb dX5_row_18 (by decide) (fun hc28 => ?_) (fun hc28 => ?_)
    · have h := it_n hc28 h
      refine lv_iload_n hx hb dX5_row_24 rfl (lv_at hl 0 rfl) ?_
      refine lv_if_eq (tgt := 34) hx hb dX5_row_25 (by decide) (fun hc29 => ?_) (fun hc29 => ?_)
      · have h := it_p hc29 h
        refine lv_aload_n hx hb dX5_row_34 rfl (lv_at hl 1 rfl) ?_
        refine gt_X5_25 F iX5 (List.mem_cons_of_mem _ (List.mem_append_left _ (List.mem_of_getElem? (i := 1) rfl))) hP 0 rfl dX5_row_35 ?_
        refine lv_aload_n hx hb dX5_row_38 rfl (lv_at hl 1 rfl) ?_
        refine gt_X5_201 F iX5 (List.mem_cons_of_mem _ (List.mem_append_left _ (List.mem_of_getElem? (i := 0) rfl))) hP 0 rfl dX5_row_39 ?_
        refine lv_iload_n hx hb dX5_row_42 rfl (lv_at hl 2 rfl) ?_
        obtain ⟨hg30, h⟩ := gd_e h
        refine r_is F hP hS 1 rfl rfl hg30 dX5_row_43 (fun H locs hP hS => ?_)
        have hP : WD D A [(a_z, .inr (5, [.ref a_z_s, .ref a_z_m, .ref a_z_image, .ref a_z_was, .int z_hasImage, .ref a_z_letters, .ref a_z_row, .ref a_z_refused, .int z_letterMany, .int z_rowMany, .int z_reading, .ref a_z_numbers, .int z_seed])), (a_z_row, .inl (cI, 16, .inl (upd z_row z_rowMany.toNatClampNeg p0))), (a_z_refused, .inl (cI, 7, .inl z_refused))] H := hP
        refine lv_aload_n hx hb dX5_row_44 rfl (lv_at hl 1 rfl) ?_
        refine lv_dup hx hb dX5_row_45 rfl ?_
        refine gt_X5_201 F iX5 (List.mem_cons_of_mem _ (List.mem_append_left _ (List.mem_of_getElem? (i := 0) rfl))) hP 0 rfl dX5_row_46 ?_
        refine lv_iconst (v := 1) hx hb dX5_row_49 (by decide) ?_
        refine lv_iadd hx hb dX5_row_50 ?_
        refine pt_X5_201 F iX5 (List.mem_cons_of_mem _ (List.mem_append_left _ (List.mem_of_getElem? (i := 0) rfl))) hP hS 0 rfl dX5_row_51 (fun H locs hP hS => ?_)
        have hP : WD D A [(a_z, .inr (5, [.ref a_z_s, .ref a_z_m, .ref a_z_image, .ref a_z_was, .int z_hasImage, .ref a_z_letters, .ref a_z_row, .ref a_z_refused, .int z_letterMany, .int (z_rowMany + 1), .int z_reading, .ref a_z_numbers, .int z_seed])), (a_z_row, .inl (cI, 16, .inl (upd z_row z_rowMany.toNatClampNeg p0))), (a_z_refused, .inl (cI, 7, .inl z_refused))] H := hP
        refine lv_aload_n hx hb dX5_row_54 rfl (lv_at hl 1 rfl) ?_
        refine gt_X5_201 F iX5 (List.mem_cons_of_mem _ (List.mem_append_left _ (List.mem_of_getElem? (i := 0) rfl))) hP 0 rfl dX5_row_55 ?_
        exact hret 58 H locs ls (z_rowMany + 1) (z_rowMany + 1) (upd z_row z_rowMany.toNatClampNeg p0) z_refused h rfl dX5_row_58 hP hS
      · have h := it_n hc29 h
        refine lv_aload_n hx hb dX5_row_28 rfl (lv_at hl 1 rfl) ?_
        refine lv_iload_n hx hb dX5_row_29 rfl (lv_at hl 0 rfl) ?_
        obtain ⟨r31, z_refused_32, hk33, h⟩ := bd2_e h
        refine cV_i (rest := []) F (kX5_no l D cI cJ H.size g a_z a_z_s a_z_m a_z_image a_z_was a_z_letters a_z_row a_z_refused a_z_numbers z_hasImage z_letterMany z_rowMany z_reading z_seed z_refused r20 r31 z_refused_32 hk33) (cwV 1 hts gX5_row_X5_no rfl rfl rfl eVX5_no ⟨Nat.le_of_ble_eq_true rfl, Nat.le_of_ble_eq_true rfl⟩) [0, 2] hP hS (by decide) rfl rfl 0 rfl rfl rfl hl.1 (Nat.le_of_ble_eq_true rfl) ⟨Nat.le_refl _, Nat.le_refl _⟩ rfl dX5_row_30 (fun H locs hP hS => ?_)
        have hP : WD D A [(a_z, .inr (5, [.ref a_z_s, .ref a_z_m, .ref a_z_image, .ref a_z_was, .int z_hasImage, .ref a_z_letters, .ref a_z_row, .ref a_z_refused, .int z_letterMany, .int z_rowMany, .int z_reading, .ref a_z_numbers, .int z_seed])), (a_z_row, .inl (cI, 16, .inl z_row)), (a_z_refused, .inl (cI, 7, .inl z_refused_32))] H := hP
        exact hret 33 H locs ls r31 z_rowMany z_row z_refused_32 h rfl dX5_row_33 hP hS
    · have h := it_p hc28 h
      refine lv_bipush (v := (-6)) hx hb dX5_row_21 (by decide) ?_
      refine lv_istore_n (lv' := [(2, .int (-6)), (0, .ref a_z), (1, .int p0)]) hx hb dX5_row_23 rfl hl (by decide) rfl (fun ls hl => ?_)
      refine lv_iload_n hx hb dX5_row_24 rfl (lv_at hl 0 rfl) ?_
      refine lv_if_eq (tgt := 34) hx hb dX5_row_25 (by decide) (fun hc34 => ?_) (fun hc34 => ?_)
      · have h := it_p hc34 h
        refine lv_aload_n hx hb dX5_row_34 rfl (lv_at hl 1 rfl) ?_
        refine gt_X5_25 F iX5 (List.mem_cons_of_mem _ (List.mem_append_left _ (List.mem_of_getElem? (i := 1) rfl))) hP 0 rfl dX5_row_35 ?_
        refine lv_aload_n hx hb dX5_row_38 rfl (lv_at hl 1 rfl) ?_
        refine gt_X5_201 F iX5 (List.mem_cons_of_mem _ (List.mem_append_left _ (List.mem_of_getElem? (i := 0) rfl))) hP 0 rfl dX5_row_39 ?_
        refine lv_iload_n hx hb dX5_row_42 rfl (lv_at hl 2 rfl) ?_
        obtain ⟨hg35, h⟩ := gd_e h
        refine r_is F hP hS 1 rfl rfl hg35 dX5_row_43 (fun H locs hP hS => ?_)
        have hP : WD D A [(a_z, .inr (5, [.ref a_z_s, .ref a_z_m, .ref a_z_image, .ref a_z_was, .int z_hasImage, .ref a_z_letters, .ref a_z_row, .ref a_z_refused, .int z_letterMany, .int z_rowMany, .int z_reading, .ref a_z_numbers, .int z_seed])), (a_z_row, .inl (cI, 16, .inl (upd z_row z_rowMany.toNatClampNeg p0))), (a_z_refused, .inl (cI, 7, .inl z_refused))] H := hP
        refine lv_aload_n hx hb dX5_row_44 rfl (lv_at hl 1 rfl) ?_
        refine lv_dup hx hb dX5_row_45 rfl ?_
        refine gt_X5_201 F iX5 (List.mem_cons_of_mem _ (List.mem_append_left _ (List.mem_of_getElem? (i := 0) rfl))) hP 0 rfl dX5_row_46 ?_
        refine lv_iconst (v := 1) hx hb dX5_row_49 (by decide) ?_
        refine lv_iadd hx hb dX5_row_50 ?_
        refine pt_X5_201 F iX5 (List.mem_cons_of_mem _ (List.mem_append_left _ (List.mem_of_getElem? (i := 0) rfl))) hP hS 0 rfl dX5_row_51 (fun H locs hP hS => ?_)
        have hP : WD D A [(a_z, .inr (5, [.ref a_z_s, .ref a_z_m, .ref a_z_image, .ref a_z_was, .int z_hasImage, .ref a_z_letters, .ref a_z_row, .ref a_z_refused, .int z_letterMany, .int (z_rowMany + 1), .int z_reading, .ref a_z_numbers, .int z_seed])), (a_z_row, .inl (cI, 16, .inl (upd z_row z_rowMany.toNatClampNeg p0))), (a_z_refused, .inl (cI, 7, .inl z_refused))] H := hP
        refine lv_aload_n hx hb dX5_row_54 rfl (lv_at hl 1 rfl) ?_
        refine gt_X5_201 F iX5 (List.mem_cons_of_mem _ (List.mem_append_left _ (List.mem_of_getElem? (i := 0) rfl))) hP 0 rfl dX5_row_55 ?_
        exact hret 58 H locs ls (z_rowMany + 1) (z_rowMany + 1) (upd z_row z_rowMany.toNatClampNeg p0) z_refused h rfl dX5_row_58 hP hS
      · have h := it_n hc34 h
        refine lv_aload_n hx hb dX5_row_28 rfl (lv_at hl 1 rfl) ?_
        refine lv_iload_n hx hb dX5_row_29 rfl (lv_at hl 0 rfl) ?_
        obtain ⟨r36, z_refused_37, hk38, h⟩ := bd2_e h
        refine cV_i (rest := []) F (kX5_no l D cI cJ H.size g a_z a_z_s a_z_m a_z_image a_z_was a_z_letters a_z_row a_z_refused a_z_numbers z_hasImage z_letterMany z_rowMany z_reading z_seed z_refused (-6) r36 z_refused_37 hk38) (cwV 1 hts gX5_row_X5_no rfl rfl rfl eVX5_no ⟨Nat.le_of_ble_eq_true rfl, Nat.le_of_ble_eq_true rfl⟩) [0, 2] hP hS (by decide) rfl rfl 0 rfl rfl rfl hl.1 (Nat.le_of_ble_eq_true rfl) ⟨Nat.le_refl _, Nat.le_refl _⟩ rfl dX5_row_30 (fun H locs hP hS => ?_)
        have hP : WD D A [(a_z, .inr (5, [.ref a_z_s, .ref a_z_m, .ref a_z_image, .ref a_z_was, .int z_hasImage, .ref a_z_letters, .ref a_z_row, .ref a_z_refused, .int z_letterMany, .int z_rowMany, .int z_reading, .ref a_z_numbers, .int z_seed])), (a_z_row, .inl (cI, 16, .inl z_row)), (a_z_refused, .inl (cI, 7, .inl z_refused_37))] H := hP
        exact hret 33 H locs ls r36 z_rowMany z_row z_refused_37 h rfl dX5_row_33 hP hS
theorem eSX5_judge : yX5_judge.cls ≠ "java/lang/invoke/MethodHandle" ∧ yX5_judge.cls ≠ "java/lang/invoke/VarHandle" ∧ (parseMethodDescriptor yX5_judge.desc).map (fun d => d.parameters.length) = some 0 := by decide +kernel
theorem eVX5_judge : yX5_judge.cls = RX5 ∧ yX5_judge.cls ≠ "java/lang/invoke/MethodHandle" ∧ yX5_judge.cls ≠ "java/lang/invoke/VarHandle" ∧ (parseMethodDescriptor yX5_judge.desc).map (fun d => d.parameters.length) = some 0 := ⟨rfl, eSX5_judge⟩
abbrev rmX5_judge : Room := { frames := 6, cells := 0, slots := 0, locals := 135 }
def fX5_judge_L23_b (g : Nat) (x1_L23 : Int32) (z_rowMany_L23 : Int32) (z_row : Nat → Int32) (self : Int32 → (Nat → Int32) → Option (((Nat → Int32)) ⊕ (Int32 × Int32 × (Nat → Int32)))) (x2_L23 : Int32) (z_m_L23 : Nat → Int32) : Option (((Nat → Int32)) ⊕ (Int32 × Int32 × (Nat → Int32))) := if x1_L23 ≤ x2_L23 then (some (.inl z_m_L23)) else (bd1 (fX5_needleIn g (-9) z_m_L23) fun r7 => (if 0 ≤ r7 then (gd (inB x2_L23 16) (if r7 = (z_row x2_L23.toNatClampNeg) then (bd1 (fX5_day g 0 z_m_L23) fun z_m_12 => (self (x2_L23 + 1) z_m_12)) else (some (.inr (x2_L23, z_rowMany_L23, z_m_L23))))) else (gd (inB x2_L23 16) (if 9 = (z_row x2_L23.toNatClampNeg) then (bd1 (fX5_day g 0 z_m_L23) fun z_m_16 => (self (x2_L23 + 1) z_m_16)) else (some (.inr (x2_L23, z_rowMany_L23, z_m_L23)))))))
def fX5_judge_L23 (g : Nat) (x1_L23 : Int32) (z_rowMany_L23 : Int32) (z_row : Nat → Int32) (n : Nat) : Int32 → (Nat → Int32) → Option (((Nat → Int32)) ⊕ (Int32 × Int32 × (Nat → Int32))) := lp (fX5_judge_L23_b g x1_L23 z_rowMany_L23 z_row) (fun _ _ => none) n
def fX5_judge (g : Nat) (z_rowMany : Int32) (z_s : Nat → Int32) (z_m : Nat → Int32) (z_row : Nat → Int32) : Option (Int32 × Int32 × (Nat → Int32)) := bd1 (fX5_copies g z_s z_m) fun z_m_4 => (bs1 (fX5_judge_L23 g z_rowMany 0 z_row g 0 z_m_4) (fun q => some q) fun t18 => (some ((-9), 0, t18)))
set_option maxHeartbeats 4000000 in
set_option maxRecDepth 100000 in
theorem kX5_judge (l : Launch) (D : va_G) (cI cJ : ClassId) (sz g : Nat) (a_z a_z_s a_z_m a_z_image a_z_was a_z_letters a_z_row a_z_refused a_z_numbers : Nat) (z_hasImage : Int32) (z_letterMany : Int32) (z_rowMany : Int32) (z_reading : Int32) (z_seed : Int32) (z_s : Nat → Int32) (z_m : Nat → Int32) (z_row : Nat → Int32) (r : Int32) (n_z_rowMany : Int32) (n_z_m : Nat → Int32) (hf : fX5_judge g z_rowMany z_s z_m z_row = some (r, n_z_rowMany, n_z_m)) : Met l yX5_judge wsX5_judge rmX5_judge (va_Pc [.ref a_z] (sPc D (tyL cI cJ) [(a_z, .inr (5, [.ref a_z_s, .ref a_z_m, .ref a_z_image, .ref a_z_was, .int z_hasImage, .ref a_z_letters, .ref a_z_row, .ref a_z_refused, .int z_letterMany, .int z_rowMany, .int z_reading, .ref a_z_numbers, .int z_seed])), (a_z_s, .inl (cI, 45, .inl z_s)), (a_z_m, .inl (cI, 45, .inl z_m)), (a_z_row, .inl (cI, 16, .inl z_row))] sz)) (qI D (tyL cI cJ) [(a_z, .inr (5, [.ref a_z_s, .ref a_z_m, .ref a_z_image, .ref a_z_was, .int z_hasImage, .ref a_z_letters, .ref a_z_row, .ref a_z_refused, .int z_letterMany, .int z_rowMany, .int z_reading, .ref a_z_numbers, .int z_seed])), (a_z_s, .inl (cI, 45, .inl z_s)), (a_z_m, .inl (cI, 45, .inl z_m)), (a_z_row, .inl (cI, 16, .inl z_row))] sz [(a_z, .inr (5, [.ref a_z_s, .ref a_z_m, .ref a_z_image, .ref a_z_was, .int z_hasImage, .ref a_z_letters, .ref a_z_row, .ref a_z_refused, .int z_letterMany, .int n_z_rowMany, .int z_reading, .ref a_z_numbers, .int z_seed])), (a_z_s, .inl (cI, 45, .inl z_s)), (a_z_m, .inl (cI, 45, .inl n_z_m)), (a_z_row, .inl (cI, 16, .inl z_row))] r) 0 0 (va_A [(a_z, .inr (5, [.ref a_z_s, .ref a_z_m, .ref a_z_image, .ref a_z_was, .int z_hasImage, .ref a_z_letters, .ref a_z_row, .ref a_z_refused, .int z_letterMany, .int z_rowMany, .int z_reading, .ref a_z_numbers, .int z_seed])), (a_z_s, .inl (cI, 45, .inl z_s)), (a_z_m, .inl (cI, 45, .inl z_m)), (a_z_row, .inl (cI, 16, .inl z_row))] sz) := by
  refine st_i (cc := cX5_judge) (maxL := 4) (by decide) rfl (Nat.le_of_ble_eq_true rfl) ?_
  intro p e s m args below meth c A Q F hret0 H locs hP hS ls hl
  have F : Cx p s m args c cX5_judge 4 wsX5_judge RX5 D (tyL cI cJ) A := F
  have hx := F.1.1
  have hb := F.1.2.1
  have hown := F.1.2.2.2.1
  have hts := F.1.2.2.2.2
  have iX5 : ∀ w ∈ wsX50, w ∈ wsX5_judge := fun w h => (List.mem_cons_of_mem _ (List.mem_append_right _ h))
  have hret : ∀ (pc : Nat) (H : Heap) (locs : List Loc) (ls : Array Slot) (r' : Int32) (m_z_rowMany : Int32) (m_z_m : Nat → Int32), some (r', m_z_rowMany, m_z_m) = some (r, n_z_rowMany, n_z_m) → narrow .int (.int r') = .int r' → decode cX5_judge pc = .ok (.ireturn, 1) → WD D A [(a_z, .inr (5, [.ref a_z_s, .ref a_z_m, .ref a_z_image, .ref a_z_was, .int z_hasImage, .ref a_z_letters, .ref a_z_row, .ref a_z_refused, .int z_letterMany, .int m_z_rowMany, .int z_reading, .ref a_z_numbers, .int z_seed])), (a_z_s, .inl (cI, 45, .inl z_s)), (a_z_m, .inl (cI, 45, .inl m_z_m)), (a_z_row, .inl (cI, 16, .inl z_row))] H → va_S A s.heap H locs → W p l e rmX5_judge s m args below meth c H locs 0 0 Q (F0 m pc ls [.int r']) := by
    intro pc H locs ls r' m_z_rowMany m_z_m h hn hd hP hS
    cases h
    exact hret0 pc H locs ls hn hd hP hS
  have L23 : ∀ (x1_L23 : Int32) (z_rowMany_L23 : Int32) (n : Nat) (x2_L23 : Int32) (z_m_L23 : Nat → Int32) (x : ((Nat → Int32)) ⊕ (Int32 × Int32 × (Nat → Int32))) (H : Heap) (locs : List Loc) (ls : Array Slot), fX5_judge_L23 g x1_L23 z_rowMany_L23 z_row n x2_L23 z_m_L23 = some x → WD D A [(a_z, .inr (5, [.ref a_z_s, .ref a_z_m, .ref a_z_image, .ref a_z_was, .int z_hasImage, .ref a_z_letters, .ref a_z_row, .ref a_z_refused, .int z_letterMany, .int z_rowMany_L23, .int z_reading, .ref a_z_numbers, .int z_seed])), (a_z_s, .inl (cI, 45, .inl z_s)), (a_z_m, .inl (cI, 45, .inl z_m_L23)), (a_z_row, .inl (cI, 16, .inl z_row))] H → va_S A s.heap H locs → lv_has ls 4 [(0, .ref a_z), (1, .int x1_L23), (2, .int x2_L23)] → (∀ (tt0 : Nat → Int32), .inl tt0 = x → (∀ (H : Heap) (locs : List Loc) (ls : Array Slot), WD D A [(a_z, .inr (5, [.ref a_z_s, .ref a_z_m, .ref a_z_image, .ref a_z_was, .int z_hasImage, .ref a_z_letters, .ref a_z_row, .ref a_z_refused, .int z_letterMany, .int z_rowMany_L23, .int z_reading, .ref a_z_numbers, .int z_seed])), (a_z_s, .inl (cI, 45, .inl z_s)), (a_z_m, .inl (cI, 45, .inl tt0)), (a_z_row, .inl (cI, 16, .inl z_row))] H → va_S A s.heap H locs → lv_has ls 4 [] → W p l e rmX5_judge s m args below meth c H locs 0 0 Q (F0 m 73 ls []))) → (∀ q : Int32 × Int32 × (Nat → Int32), .inr q = x → some q = some (r, n_z_rowMany, n_z_m)) → W p l e rmX5_judge s m args below meth c H locs 0 0 Q (F0 m 23 ls []) := by
    intro x1_L23 z_rowMany_L23 n
    induction n with
    | zero =>
      intro x2_L23 z_m_L23 x H locs ls h
      exact (no_some h).elim
    | succ n ih =>
      intro x2_L23 z_m_L23 x H locs ls h hP hS hl kE kR
      have h : fX5_judge_L23_b g x1_L23 z_rowMany_L23 z_row (fX5_judge_L23 g x1_L23 z_rowMany_L23 z_row n) x2_L23 z_m_L23 = some x := h
      unfold fX5_judge_L23_b at h
      refine lv_iload_n hx hb dX5_judge_23 rfl (lv_at hl 2 rfl) ?_
      refine lv_iload_n hx hb dX5_judge_24 rfl (lv_at hl 1 rfl) ?_
      refine lv_icmp_ge (tgt := 73) hx hb dX5_judge_25 (by decide) (fun hc6 => ?_) (fun hc6 => ?_)
      · have h := it_p hc6 h
        cases h
        exact kE _ rfl H locs ls hP hS (lv_sub hl [] rfl)
      · have h := it_n hc6 h
        refine lv_aload_n hx hb dX5_judge_28 rfl (lv_at hl 0 rfl) ?_
        refine gt_X5_13 F iX5 (List.mem_cons_of_mem _ (List.mem_append_left _ (List.mem_append_left _ (List.mem_of_getElem? (i := 2) rfl)))) hP 0 rfl dX5_judge_29 ?_
        refine lv_bipush (v := (-9)) hx hb dX5_judge_32 (by decide) ?_
        obtain ⟨r7, hk8, h⟩ := bd1_e h
        refine cS_i (rest := []) F (kX5_needleIn l D cI cJ H.size g a_z_m z_m_L23 (-9) r7 hk8) (va_cwS 2 hts gX5_judge_X5_needleIn rfl rfl rfl eSX5_needleIn ⟨Nat.le_of_ble_eq_true rfl, Nat.le_of_ble_eq_true rfl⟩) [2] hP hS (by decide) rfl rfl rfl hl.1 (Nat.le_of_ble_eq_true rfl) ⟨Nat.le_refl _, Nat.le_refl _⟩ rfl dX5_judge_34 (fun H locs hP hS => ?_)
        have hP : WD D A [(a_z, .inr (5, [.ref a_z_s, .ref a_z_m, .ref a_z_image, .ref a_z_was, .int z_hasImage, .ref a_z_letters, .ref a_z_row, .ref a_z_refused, .int z_letterMany, .int z_rowMany_L23, .int z_reading, .ref a_z_numbers, .int z_seed])), (a_z_s, .inl (cI, 45, .inl z_s)), (a_z_m, .inl (cI, 45, .inl z_m_L23)), (a_z_row, .inl (cI, 16, .inl z_row))] H := hP
        refine lv_istore_n (lv' := [(3, .int r7), (0, .ref a_z), (1, .int x1_L23), (2, .int x2_L23)]) hx hb dX5_judge_37 rfl hl (by decide) rfl (fun ls hl => ?_)
        refine lv_iload_n hx hb dX5_judge_38 rfl (lv_at hl 0 rfl) ?_
        refine lv_if_ge (tgt := 47) hx hb dX5_judge_39 (by decide) (fun hc9 => ?_) (fun hc9 => ?_)
        · have h := it_p hc9 h
          refine lv_iload_n hx hb dX5_judge_47 rfl (lv_at hl 0 rfl) ?_
          refine lv_aload_n hx hb dX5_judge_48 rfl (lv_at hl 1 rfl) ?_
          refine gt_X5_25 F iX5 (List.mem_cons_of_mem _ (List.mem_append_left _ (List.mem_append_left _ (List.mem_of_getElem? (i := 3) rfl)))) hP 0 rfl dX5_judge_49 ?_
          refine lv_iload_n hx hb dX5_judge_52 rfl (lv_at hl 3 rfl) ?_
          obtain ⟨hg10, h⟩ := gd_e h
          refine r_ia F hP 3 rfl rfl hg10 dX5_judge_53 ?_
          refine lv_icmp_eq (tgt := 59) hx hb dX5_judge_54 (by decide) (fun hc11 => ?_) (fun hc11 => ?_)
          · have h := it_p hc11 h
            refine lv_aload_n hx hb dX5_judge_59 rfl (lv_at hl 1 rfl) ?_
            refine gt_X5_13 F iX5 (List.mem_cons_of_mem _ (List.mem_append_left _ (List.mem_append_left _ (List.mem_of_getElem? (i := 2) rfl)))) hP 0 rfl dX5_judge_60 ?_
            refine lv_iconst (v := 0) hx hb dX5_judge_63 (by decide) ?_
            obtain ⟨z_m_12, hk13, h⟩ := bd1_e h
            refine cS_v (rest := []) F (kX5_day l D cI cJ H.size g a_z_m z_m_L23 0 z_m_12 hk13) (va_cwS 2 hts gX5_judge_X5_day rfl rfl rfl eSX5_day ⟨Nat.le_of_ble_eq_true rfl, Nat.le_of_ble_eq_true rfl⟩) [2] hP hS (by decide) rfl rfl rfl hl.1 (Nat.le_of_ble_eq_true rfl) ⟨Nat.le_refl _, Nat.le_refl _⟩ rfl dX5_judge_64 (fun H locs hP hS => ?_)
            have hP : WD D A [(a_z, .inr (5, [.ref a_z_s, .ref a_z_m, .ref a_z_image, .ref a_z_was, .int z_hasImage, .ref a_z_letters, .ref a_z_row, .ref a_z_refused, .int z_letterMany, .int z_rowMany_L23, .int z_reading, .ref a_z_numbers, .int z_seed])), (a_z_s, .inl (cI, 45, .inl z_s)), (a_z_m, .inl (cI, 45, .inl z_m_12)), (a_z_row, .inl (cI, 16, .inl z_row))] H := hP
            refine lv_iinc (v := x2_L23 + 1) (lv' := [(2, .int (x2_L23 + 1)), (3, .int r7), (0, .ref a_z), (1, .int x1_L23)]) hx hb dX5_judge_67 hl (k := 3) rfl rfl (by decide) rfl (fun ls hl => ?_)
            refine lv_goto (tgt := 23) hx hb dX5_judge_70 (by decide) ?_
            exact ih (x2_L23 + 1) z_m_12 x H locs ls h hP hS (lv_sub hl [2, 3, 0] rfl) kE kR
          · have h := it_n hc11 h
            refine lv_iload_n hx hb dX5_judge_57 rfl (lv_at hl 3 rfl) ?_
            have h := kR _ (Option.some.inj h)
            exact hret 58 H locs ls x2_L23 z_rowMany_L23 z_m_L23 h rfl dX5_judge_58 hP hS
        · have h := it_n hc9 h
          refine lv_bipush (v := 9) hx hb dX5_judge_42 (by decide) ?_
          refine lv_goto (tgt := 48) hx hb dX5_judge_44 (by decide) ?_
          refine lv_aload_n hx hb dX5_judge_48 rfl (lv_at hl 1 rfl) ?_
          refine gt_X5_25 F iX5 (List.mem_cons_of_mem _ (List.mem_append_left _ (List.mem_append_left _ (List.mem_of_getElem? (i := 3) rfl)))) hP 0 rfl dX5_judge_49 ?_
          refine lv_iload_n hx hb dX5_judge_52 rfl (lv_at hl 3 rfl) ?_
          obtain ⟨hg14, h⟩ := gd_e h
          refine r_ia F hP 3 rfl rfl hg14 dX5_judge_53 ?_
          refine lv_icmp_eq (tgt := 59) hx hb dX5_judge_54 (by decide) (fun hc15 => ?_) (fun hc15 => ?_)
          · have h := it_p hc15 h
            refine lv_aload_n hx hb dX5_judge_59 rfl (lv_at hl 1 rfl) ?_
            refine gt_X5_13 F iX5 (List.mem_cons_of_mem _ (List.mem_append_left _ (List.mem_append_left _ (List.mem_of_getElem? (i := 2) rfl)))) hP 0 rfl dX5_judge_60 ?_
            refine lv_iconst (v := 0) hx hb dX5_judge_63 (by decide) ?_
            obtain ⟨z_m_16, hk17, h⟩ := bd1_e h
            refine cS_v (rest := []) F (kX5_day l D cI cJ H.size g a_z_m z_m_L23 0 z_m_16 hk17) (va_cwS 2 hts gX5_judge_X5_day rfl rfl rfl eSX5_day ⟨Nat.le_of_ble_eq_true rfl, Nat.le_of_ble_eq_true rfl⟩) [2] hP hS (by decide) rfl rfl rfl hl.1 (Nat.le_of_ble_eq_true rfl) ⟨Nat.le_refl _, Nat.le_refl _⟩ rfl dX5_judge_64 (fun H locs hP hS => ?_)
            have hP : WD D A [(a_z, .inr (5, [.ref a_z_s, .ref a_z_m, .ref a_z_image, .ref a_z_was, .int z_hasImage, .ref a_z_letters, .ref a_z_row, .ref a_z_refused, .int z_letterMany, .int z_rowMany_L23, .int z_reading, .ref a_z_numbers, .int z_seed])), (a_z_s, .inl (cI, 45, .inl z_s)), (a_z_m, .inl (cI, 45, .inl z_m_16)), (a_z_row, .inl (cI, 16, .inl z_row))] H := hP
            refine lv_iinc (v := x2_L23 + 1) (lv' := [(2, .int (x2_L23 + 1)), (3, .int r7), (0, .ref a_z), (1, .int x1_L23)]) hx hb dX5_judge_67 hl (k := 3) rfl rfl (by decide) rfl (fun ls hl => ?_)
            refine lv_goto (tgt := 23) hx hb dX5_judge_70 (by decide) ?_
            exact ih (x2_L23 + 1) z_m_16 x H locs ls h hP hS (lv_sub hl [2, 3, 0] rfl) kE kR
          · have h := it_n hc15 h
            refine lv_iload_n hx hb dX5_judge_57 rfl (lv_at hl 3 rfl) ?_
            have h := kR _ (Option.some.inj h)
            exact hret 58 H locs ls x2_L23 z_rowMany_L23 z_m_L23 h rfl dX5_judge_58 hP hS
  have hl : lv_has ls 4 [(0, .ref a_z)] := hl
  have h := hf
  unfold fX5_judge at h
  refine lv_aload_n hx hb dX5_judge_0 rfl (lv_at hl 0 rfl) ?_
  refine gt_X5_201 F iX5 (List.mem_cons_of_mem _ (List.mem_append_left _ (List.mem_append_left _ (List.mem_of_getElem? (i := 0) rfl)))) hP 0 rfl dX5_judge_1 ?_
  refine lv_istore_n (lv' := [(1, .int z_rowMany), (0, .ref a_z)]) hx hb dX5_judge_4 rfl hl (by decide) rfl (fun ls hl => ?_)
  refine lv_aload_n hx hb dX5_judge_5 rfl (lv_at hl 1 rfl) ?_
  refine lv_iconst (v := 0) hx hb dX5_judge_6 (by decide) ?_
  refine pt_X5_201 F iX5 (List.mem_cons_of_mem _ (List.mem_append_left _ (List.mem_append_left _ (List.mem_of_getElem? (i := 0) rfl)))) hP hS 0 rfl dX5_judge_7 (fun H locs hP hS => ?_)
  have hP : WD D A [(a_z, .inr (5, [.ref a_z_s, .ref a_z_m, .ref a_z_image, .ref a_z_was, .int z_hasImage, .ref a_z_letters, .ref a_z_row, .ref a_z_refused, .int z_letterMany, .int 0, .int z_reading, .ref a_z_numbers, .int z_seed])), (a_z_s, .inl (cI, 45, .inl z_s)), (a_z_m, .inl (cI, 45, .inl z_m)), (a_z_row, .inl (cI, 16, .inl z_row))] H := hP
  refine lv_aload_n hx hb dX5_judge_10 rfl (lv_at hl 1 rfl) ?_
  refine gt_X5_9 F iX5 (List.mem_cons_of_mem _ (List.mem_append_left _ (List.mem_append_left _ (List.mem_of_getElem? (i := 1) rfl)))) hP 0 rfl dX5_judge_11 ?_
  refine lv_aload_n hx hb dX5_judge_14 rfl (lv_at hl 1 rfl) ?_
  refine gt_X5_13 F iX5 (List.mem_cons_of_mem _ (List.mem_append_left _ (List.mem_append_left _ (List.mem_of_getElem? (i := 2) rfl)))) hP 0 rfl dX5_judge_15 ?_
  obtain ⟨z_m_4, hk5, h⟩ := bd1_e h
  refine cS_v (rest := []) F (kX5_copies l D cI cJ H.size g a_z_s a_z_m z_s z_m z_m_4 hk5) (va_cwS 2 hts gX5_judge_X5_copies rfl rfl rfl eSX5_copies ⟨Nat.le_of_ble_eq_true rfl, Nat.le_of_ble_eq_true rfl⟩) [1, 2] hP hS (by decide) rfl rfl rfl hl.1 (Nat.le_of_ble_eq_true rfl) ⟨Nat.le_refl _, Nat.le_refl _⟩ rfl dX5_judge_18 (fun H locs hP hS => ?_)
  have hP : WD D A [(a_z, .inr (5, [.ref a_z_s, .ref a_z_m, .ref a_z_image, .ref a_z_was, .int z_hasImage, .ref a_z_letters, .ref a_z_row, .ref a_z_refused, .int z_letterMany, .int 0, .int z_reading, .ref a_z_numbers, .int z_seed])), (a_z_s, .inl (cI, 45, .inl z_s)), (a_z_m, .inl (cI, 45, .inl z_m_4)), (a_z_row, .inl (cI, 16, .inl z_row))] H := hP
  refine lv_iconst (v := 0) hx hb dX5_judge_21 (by decide) ?_
  refine lv_istore_n (lv' := [(2, .int 0), (1, .int z_rowMany), (0, .ref a_z)]) hx hb dX5_judge_22 rfl hl (by decide) rfl (fun ls hl => ?_)
  obtain ⟨x20, hk19, x20a, x20b⟩ := bs1_e h
  refine L23 z_rowMany 0 g 0 z_m_4 x20 H locs ls hk19 hP hS (lv_sub hl [2, 1, 0] rfl) (fun t18 he21 H locs ls hP hS hl => ?_) (fun q he21 => (x20b q he21.symm))
  have h := x20a t18 he21.symm
  refine lv_bipush (v := (-9)) hx hb dX5_judge_73 (by decide) ?_
  exact hret 75 H locs ls (-9) 0 t18 h rfl dX5_judge_75 hP hS
theorem eSX5_clear : yX5_clear.cls ≠ "java/lang/invoke/MethodHandle" ∧ yX5_clear.cls ≠ "java/lang/invoke/VarHandle" ∧ (parseMethodDescriptor yX5_clear.desc).map (fun d => d.parameters.length) = some 0 := by decide +kernel
theorem eVX5_clear : yX5_clear.cls = RX5 ∧ yX5_clear.cls ≠ "java/lang/invoke/MethodHandle" ∧ yX5_clear.cls ≠ "java/lang/invoke/VarHandle" ∧ (parseMethodDescriptor yX5_clear.desc).map (fun d => d.parameters.length) = some 0 := ⟨rfl, eSX5_clear⟩
abbrev rmX5_clear : Room := { frames := 0, cells := 0, slots := 0, locals := 0 }
def fX5_clear (g : Nat) (z_rowMany : Int32) : Option (Int32 × Int32) := some (z_rowMany, 0)
set_option maxHeartbeats 4000000 in
set_option maxRecDepth 100000 in
theorem kX5_clear (l : Launch) (D : va_G) (cI cJ : ClassId) (sz g : Nat) (a_z a_z_s a_z_m a_z_image a_z_was a_z_letters a_z_row a_z_refused a_z_numbers : Nat) (z_hasImage : Int32) (z_letterMany : Int32) (z_rowMany : Int32) (z_reading : Int32) (z_seed : Int32) (r : Int32) (n_z_rowMany : Int32) (hf : fX5_clear g z_rowMany = some (r, n_z_rowMany)) : Met l yX5_clear wsX5_clear rmX5_clear (va_Pc [.ref a_z] (sPc D (tyL cI cJ) [(a_z, .inr (5, [.ref a_z_s, .ref a_z_m, .ref a_z_image, .ref a_z_was, .int z_hasImage, .ref a_z_letters, .ref a_z_row, .ref a_z_refused, .int z_letterMany, .int z_rowMany, .int z_reading, .ref a_z_numbers, .int z_seed]))] sz)) (qI D (tyL cI cJ) [(a_z, .inr (5, [.ref a_z_s, .ref a_z_m, .ref a_z_image, .ref a_z_was, .int z_hasImage, .ref a_z_letters, .ref a_z_row, .ref a_z_refused, .int z_letterMany, .int z_rowMany, .int z_reading, .ref a_z_numbers, .int z_seed]))] sz [(a_z, .inr (5, [.ref a_z_s, .ref a_z_m, .ref a_z_image, .ref a_z_was, .int z_hasImage, .ref a_z_letters, .ref a_z_row, .ref a_z_refused, .int z_letterMany, .int n_z_rowMany, .int z_reading, .ref a_z_numbers, .int z_seed]))] r) 0 0 (va_A [(a_z, .inr (5, [.ref a_z_s, .ref a_z_m, .ref a_z_image, .ref a_z_was, .int z_hasImage, .ref a_z_letters, .ref a_z_row, .ref a_z_refused, .int z_letterMany, .int z_rowMany, .int z_reading, .ref a_z_numbers, .int z_seed]))] sz) := by
  refine st_i (cc := cX5_clear) (maxL := 2) (by decide) rfl (Nat.le_of_ble_eq_true rfl) ?_
  intro p e s m args below meth c A Q F hret0 H locs hP hS ls hl
  have F : Cx p s m args c cX5_clear 2 wsX5_clear RX5 D (tyL cI cJ) A := F
  have hx := F.1.1
  have hb := F.1.2.1
  have hown := F.1.2.2.2.1
  have hts := F.1.2.2.2.2
  have iX5 : ∀ w ∈ wsX50, w ∈ wsX5_clear := fun w h => (List.mem_cons_of_mem _ (List.mem_append_right _ h))
  have hret : ∀ (pc : Nat) (H : Heap) (locs : List Loc) (ls : Array Slot) (r' : Int32) (m_z_rowMany : Int32), some (r', m_z_rowMany) = some (r, n_z_rowMany) → narrow .int (.int r') = .int r' → decode cX5_clear pc = .ok (.ireturn, 1) → WD D A [(a_z, .inr (5, [.ref a_z_s, .ref a_z_m, .ref a_z_image, .ref a_z_was, .int z_hasImage, .ref a_z_letters, .ref a_z_row, .ref a_z_refused, .int z_letterMany, .int m_z_rowMany, .int z_reading, .ref a_z_numbers, .int z_seed]))] H → va_S A s.heap H locs → W p l e rmX5_clear s m args below meth c H locs 0 0 Q (F0 m pc ls [.int r']) := by
    intro pc H locs ls r' m_z_rowMany h hn hd hP hS
    cases h
    exact hret0 pc H locs ls hn hd hP hS
  have hl : lv_has ls 2 [(0, .ref a_z)] := hl
  have h := hf
  unfold fX5_clear at h
  refine lv_aload_n hx hb dX5_clear_0 rfl (lv_at hl 0 rfl) ?_
  refine gt_X5_201 F iX5 (List.mem_cons_of_mem _ (List.mem_append_left _ (List.mem_of_getElem? (i := 0) rfl))) hP 0 rfl dX5_clear_1 ?_
  refine lv_istore_n (lv' := [(1, .int z_rowMany), (0, .ref a_z)]) hx hb dX5_clear_4 rfl hl (by decide) rfl (fun ls hl => ?_)
  refine lv_aload_n hx hb dX5_clear_5 rfl (lv_at hl 1 rfl) ?_
  refine lv_iconst (v := 0) hx hb dX5_clear_6 (by decide) ?_
  refine pt_X5_201 F iX5 (List.mem_cons_of_mem _ (List.mem_append_left _ (List.mem_of_getElem? (i := 0) rfl))) hP hS 0 rfl dX5_clear_7 (fun H locs hP hS => ?_)
  have hP : WD D A [(a_z, .inr (5, [.ref a_z_s, .ref a_z_m, .ref a_z_image, .ref a_z_was, .int z_hasImage, .ref a_z_letters, .ref a_z_row, .ref a_z_refused, .int z_letterMany, .int 0, .int z_reading, .ref a_z_numbers, .int z_seed]))] H := hP
  refine lv_iload_n hx hb dX5_clear_10 rfl (lv_at hl 0 rfl) ?_
  exact hret 11 H locs ls z_rowMany 0 h rfl dX5_clear_11 hP hS
theorem eSX5_drawn : yX5_drawn.cls ≠ "java/lang/invoke/MethodHandle" ∧ yX5_drawn.cls ≠ "java/lang/invoke/VarHandle" ∧ (parseMethodDescriptor yX5_drawn.desc).map (fun d => d.parameters.length) = some 1 := by decide +kernel
theorem eVX5_drawn : yX5_drawn.cls = RX5 ∧ yX5_drawn.cls ≠ "java/lang/invoke/MethodHandle" ∧ yX5_drawn.cls ≠ "java/lang/invoke/VarHandle" ∧ (parseMethodDescriptor yX5_drawn.desc).map (fun d => d.parameters.length) = some 1 := ⟨rfl, eSX5_drawn⟩
abbrev rmX5_drawn : Room := { frames := 0, cells := 0, slots := 0, locals := 0 }
def fX5_drawn (g : Nat) (p0 : Int32) (z_seed : Int32) : Option (Int32 × Int32) := gd (¬ p0 = 0) (some (((((z_seed * 1664525) + 1013904223) &&& 2147483647) / 256) - ((((z_seed * 1664525) + 1013904223) &&& 2147483647) / 256) / p0 * p0, (z_seed * 1664525) + 1013904223))
set_option maxHeartbeats 4000000 in
set_option maxRecDepth 100000 in
theorem kX5_drawn (l : Launch) (D : va_G) (cI cJ : ClassId) (sz g : Nat) (a_z a_z_s a_z_m a_z_image a_z_was a_z_letters a_z_row a_z_refused a_z_numbers : Nat) (z_hasImage : Int32) (z_letterMany : Int32) (z_rowMany : Int32) (z_reading : Int32) (z_seed : Int32) (p0 : Int32) (r : Int32) (n_z_seed : Int32) (hf : fX5_drawn g p0 z_seed = some (r, n_z_seed)) : Met l yX5_drawn wsX5_drawn rmX5_drawn (va_Pc [.ref a_z, .int p0] (sPc D (tyL cI cJ) [(a_z, .inr (5, [.ref a_z_s, .ref a_z_m, .ref a_z_image, .ref a_z_was, .int z_hasImage, .ref a_z_letters, .ref a_z_row, .ref a_z_refused, .int z_letterMany, .int z_rowMany, .int z_reading, .ref a_z_numbers, .int z_seed]))] sz)) (qI D (tyL cI cJ) [(a_z, .inr (5, [.ref a_z_s, .ref a_z_m, .ref a_z_image, .ref a_z_was, .int z_hasImage, .ref a_z_letters, .ref a_z_row, .ref a_z_refused, .int z_letterMany, .int z_rowMany, .int z_reading, .ref a_z_numbers, .int z_seed]))] sz [(a_z, .inr (5, [.ref a_z_s, .ref a_z_m, .ref a_z_image, .ref a_z_was, .int z_hasImage, .ref a_z_letters, .ref a_z_row, .ref a_z_refused, .int z_letterMany, .int z_rowMany, .int z_reading, .ref a_z_numbers, .int n_z_seed]))] r) 0 0 (va_A [(a_z, .inr (5, [.ref a_z_s, .ref a_z_m, .ref a_z_image, .ref a_z_was, .int z_hasImage, .ref a_z_letters, .ref a_z_row, .ref a_z_refused, .int z_letterMany, .int z_rowMany, .int z_reading, .ref a_z_numbers, .int z_seed]))] sz) := by
  refine st_i (cc := cX5_drawn) (maxL := 2) (by decide) rfl (Nat.le_of_ble_eq_true rfl) ?_
  intro p e s m args below meth c A Q F hret0 H locs hP hS ls hl
  have F : Cx p s m args c cX5_drawn 2 wsX5_drawn RX5 D (tyL cI cJ) A := F
  have hx := F.1.1
  have hb := F.1.2.1
  have hown := F.1.2.2.2.1
  have hts := F.1.2.2.2.2
  have iX5 : ∀ w ∈ wsX50, w ∈ wsX5_drawn := fun w h => (List.mem_cons_of_mem _ (List.mem_append_right _ h))
  have hret : ∀ (pc : Nat) (H : Heap) (locs : List Loc) (ls : Array Slot) (r' : Int32) (m_z_seed : Int32), some (r', m_z_seed) = some (r, n_z_seed) → narrow .int (.int r') = .int r' → decode cX5_drawn pc = .ok (.ireturn, 1) → WD D A [(a_z, .inr (5, [.ref a_z_s, .ref a_z_m, .ref a_z_image, .ref a_z_was, .int z_hasImage, .ref a_z_letters, .ref a_z_row, .ref a_z_refused, .int z_letterMany, .int z_rowMany, .int z_reading, .ref a_z_numbers, .int m_z_seed]))] H → va_S A s.heap H locs → W p l e rmX5_drawn s m args below meth c H locs 0 0 Q (F0 m pc ls [.int r']) := by
    intro pc H locs ls r' m_z_seed h hn hd hP hS
    cases h
    exact hret0 pc H locs ls hn hd hP hS
  have hl : lv_has ls 2 [(0, .ref a_z), (1, .int p0)] := hl
  have h := hf
  unfold fX5_drawn at h
  refine lv_aload_n hx hb dX5_drawn_0 rfl (lv_at hl 0 rfl) ?_
  refine lv_aload_n hx hb dX5_drawn_1 rfl (lv_at hl 0 rfl) ?_
  refine gt_X5_204 F iX5 (List.mem_cons_of_mem _ (List.mem_append_left _ (List.mem_of_getElem? (i := 0) rfl))) hP 0 rfl dX5_drawn_2 ?_
  refine lv_ldc (v := 1664525) hx hb hown (hts _ (List.mem_cons_of_mem _ (List.mem_append_left _ (List.mem_of_getElem? (i := 1) rfl)))) dX5_drawn_5 ?_
  refine lv_imul hx hb dX5_drawn_7 ?_
  refine lv_ldc (v := 1013904223) hx hb hown (hts _ (List.mem_cons_of_mem _ (List.mem_append_left _ (List.mem_of_getElem? (i := 2) rfl)))) dX5_drawn_8 ?_
  refine lv_iadd hx hb dX5_drawn_10 ?_
  refine pt_X5_204 F iX5 (List.mem_cons_of_mem _ (List.mem_append_left _ (List.mem_of_getElem? (i := 0) rfl))) hP hS 0 rfl dX5_drawn_11 (fun H locs hP hS => ?_)
  have hP : WD D A [(a_z, .inr (5, [.ref a_z_s, .ref a_z_m, .ref a_z_image, .ref a_z_was, .int z_hasImage, .ref a_z_letters, .ref a_z_row, .ref a_z_refused, .int z_letterMany, .int z_rowMany, .int z_reading, .ref a_z_numbers, .int ((z_seed * 1664525) + 1013904223)]))] H := hP
  refine lv_aload_n hx hb dX5_drawn_14 rfl (lv_at hl 0 rfl) ?_
  refine gt_X5_204 F iX5 (List.mem_cons_of_mem _ (List.mem_append_left _ (List.mem_of_getElem? (i := 0) rfl))) hP 0 rfl dX5_drawn_15 ?_
  refine lv_ldc (v := 2147483647) hx hb hown (hts _ (List.mem_cons_of_mem _ (List.mem_append_left _ (List.mem_of_getElem? (i := 3) rfl)))) dX5_drawn_18 ?_
  refine lv_iand hx hb dX5_drawn_20 ?_
  refine lv_sipush (v := 256) hx hb dX5_drawn_21 (by decide) ?_
  refine lv_idiv hx hb dX5_drawn_24 (by decide) ?_
  refine lv_iload_n hx hb dX5_drawn_25 rfl (lv_at hl 1 rfl) ?_
  obtain ⟨hg2, h⟩ := gd_e h
  refine lv_irem hx hb dX5_drawn_26 hg2 ?_
  exact hret 27 H locs ls (((((z_seed * 1664525) + 1013904223) &&& 2147483647) / 256) - ((((z_seed * 1664525) + 1013904223) &&& 2147483647) / 256) / p0 * p0) ((z_seed * 1664525) + 1013904223) h rfl dX5_drawn_27 hP hS
theorem eSX5_lots : yX5_lots.cls ≠ "java/lang/invoke/MethodHandle" ∧ yX5_lots.cls ≠ "java/lang/invoke/VarHandle" ∧ (parseMethodDescriptor yX5_lots.desc).map (fun d => d.parameters.length) = some 3 := by decide +kernel
theorem eVX5_lots : yX5_lots.cls = RX5 ∧ yX5_lots.cls ≠ "java/lang/invoke/MethodHandle" ∧ yX5_lots.cls ≠ "java/lang/invoke/VarHandle" ∧ (parseMethodDescriptor yX5_lots.desc).map (fun d => d.parameters.length) = some 3 := ⟨rfl, eSX5_lots⟩
abbrev rmX5_lots : Room := { frames := 7, cells := 0, slots := 0, locals := 157 }
def fX5_lots_L84_b (g : Nat) (z_s : Nat → Int32) (self : Int32 → Int32 → (Nat → Int32) → Option (Int32 × (Nat → Int32))) (x6_L84 : Int32) (z_seed_L84 : Int32) (z_m_L84 : Nat → Int32) : Option (Int32 × (Nat → Int32)) := if (z_s 1) ≤ x6_L84 then (some (z_seed_L84, z_m_L84)) else (bd1 (fX5_of g x6_L84 3) fun r30 => (bd2 (fX5_drawn g 40 z_seed_L84) fun r32 z_seed_33 => (gd (inB r30 45) (self (x6_L84 + 1) z_seed_33 (upd z_m_L84 r30.toNatClampNeg r32)))))
def fX5_lots_L84 (g : Nat) (z_s : Nat → Int32) (n : Nat) : Int32 → Int32 → (Nat → Int32) → Option (Int32 × (Nat → Int32)) := lp (fX5_lots_L84_b g z_s) (fun _ _ _ => none) n
def fX5_lots_L52_b (g : Nat) (x1_L52 : Int32) (x3_L52 : Int32) (z_s : Nat → Int32) (self : Int32 → Int32 → Int32 → (Nat → Int32) → Option (Int32 × Int32 × (Nat → Int32))) (x4_L52 : Int32) (x5_L52 : Int32) (z_seed_L52 : Int32) (z_m_L52 : Nat → Int32) : Option (Int32 × Int32 × (Nat → Int32)) := if x1_L52 ≤ x5_L52 then (some (x4_L52, z_seed_L52, z_m_L52)) else (bd1 (fX5_copies g z_s z_m_L52) fun z_m_24 => (bd2 (fX5_drawn g 64 z_seed_L52) fun r26 z_seed_27 => (bd2 (fX5_lots_L84 g z_s g 0 z_seed_27 (upd z_m_24 3 r26)) fun t36 t37 => (bd1 (fX5_daysOn g 12 t37) fun z_m_38 => (if x3_L52 = 1 then (self (x4_L52 + (z_m_38 3)) (x5_L52 + 1) t36 z_m_38) else (bd1 (fX5_placeAt g z_m_38) fun r41 => (if r41 < 0 then (self (x4_L52 + 0) (x5_L52 + 1) t36 z_m_38) else (self (x4_L52 + 1) (x5_L52 + 1) t36 z_m_38))))))))
def fX5_lots_L52 (g : Nat) (x1_L52 : Int32) (x3_L52 : Int32) (z_s : Nat → Int32) (n : Nat) : Int32 → Int32 → Int32 → (Nat → Int32) → Option (Int32 × Int32 × (Nat → Int32)) := lp (fX5_lots_L52_b g x1_L52 x3_L52 z_s) (fun _ _ _ _ => none) n
def fX5_lots (g : Nat) (p0 : Int32) (p1 : Int32) (p2 : Int32) (z_seed : Int32) (z_s : Nat → Int32) (z_m : Nat → Int32) (z_refused : Nat → Int32) : Option (Int32 × Int32 × (Nat → Int32) × (Nat → Int32)) := if 1 ≤ p0 then (if p0 ≤ 20 then (bd1 (fX5_isIn g p2 0 1) fun r20 => (if r20 = 0 then (bd2 (fX5_no g (-2) z_refused) fun r51 z_refused_52 => (some (r51, z_seed, z_m, z_refused_52))) else (bd3 (fX5_lots_L52 g p0 p2 z_s g 0 0 p1 z_m) fun t46 t47 t48 => (some (t46, t47, t48, z_refused))))) else (bd2 (fX5_no g (-6) z_refused) fun r54 z_refused_55 => (some (r54, z_seed, z_m, z_refused_55)))) else (bd2 (fX5_no g (-4) z_refused) fun r57 z_refused_58 => (some (r57, z_seed, z_m, z_refused_58)))
set_option maxHeartbeats 4000000 in
set_option maxRecDepth 100000 in
theorem kX5_lots (l : Launch) (D : va_G) (cI cJ : ClassId) (sz g : Nat) (a_z a_z_s a_z_m a_z_image a_z_was a_z_letters a_z_row a_z_refused a_z_numbers : Nat) (z_hasImage : Int32) (z_letterMany : Int32) (z_rowMany : Int32) (z_reading : Int32) (z_seed : Int32) (z_s : Nat → Int32) (z_m : Nat → Int32) (z_refused : Nat → Int32) (p0 : Int32) (p1 : Int32) (p2 : Int32) (r : Int32) (n_z_seed : Int32) (n_z_m : Nat → Int32) (n_z_refused : Nat → Int32) (hf : fX5_lots g p0 p1 p2 z_seed z_s z_m z_refused = some (r, n_z_seed, n_z_m, n_z_refused)) : Met l yX5_lots wsX5_lots rmX5_lots (va_Pc [.ref a_z, .int p0, .int p1, .int p2] (sPc D (tyL cI cJ) [(a_z, .inr (5, [.ref a_z_s, .ref a_z_m, .ref a_z_image, .ref a_z_was, .int z_hasImage, .ref a_z_letters, .ref a_z_row, .ref a_z_refused, .int z_letterMany, .int z_rowMany, .int z_reading, .ref a_z_numbers, .int z_seed])), (a_z_s, .inl (cI, 45, .inl z_s)), (a_z_m, .inl (cI, 45, .inl z_m)), (a_z_refused, .inl (cI, 7, .inl z_refused))] sz)) (qI D (tyL cI cJ) [(a_z, .inr (5, [.ref a_z_s, .ref a_z_m, .ref a_z_image, .ref a_z_was, .int z_hasImage, .ref a_z_letters, .ref a_z_row, .ref a_z_refused, .int z_letterMany, .int z_rowMany, .int z_reading, .ref a_z_numbers, .int z_seed])), (a_z_s, .inl (cI, 45, .inl z_s)), (a_z_m, .inl (cI, 45, .inl z_m)), (a_z_refused, .inl (cI, 7, .inl z_refused))] sz [(a_z, .inr (5, [.ref a_z_s, .ref a_z_m, .ref a_z_image, .ref a_z_was, .int z_hasImage, .ref a_z_letters, .ref a_z_row, .ref a_z_refused, .int z_letterMany, .int z_rowMany, .int z_reading, .ref a_z_numbers, .int n_z_seed])), (a_z_s, .inl (cI, 45, .inl z_s)), (a_z_m, .inl (cI, 45, .inl n_z_m)), (a_z_refused, .inl (cI, 7, .inl n_z_refused))] r) 0 0 (va_A [(a_z, .inr (5, [.ref a_z_s, .ref a_z_m, .ref a_z_image, .ref a_z_was, .int z_hasImage, .ref a_z_letters, .ref a_z_row, .ref a_z_refused, .int z_letterMany, .int z_rowMany, .int z_reading, .ref a_z_numbers, .int z_seed])), (a_z_s, .inl (cI, 45, .inl z_s)), (a_z_m, .inl (cI, 45, .inl z_m)), (a_z_refused, .inl (cI, 7, .inl z_refused))] sz) := by
  refine st_i (cc := cX5_lots) (maxL := 7) (by decide) rfl (Nat.le_of_ble_eq_true rfl) ?_
  intro p e s m args below meth c A Q F hret0 H locs hP hS ls hl
  have F : Cx p s m args c cX5_lots 7 wsX5_lots RX5 D (tyL cI cJ) A := F
  have hx := F.1.1
  have hb := F.1.2.1
  have hown := F.1.2.2.2.1
  have hts := F.1.2.2.2.2
  have iX5 : ∀ w ∈ wsX50, w ∈ wsX5_lots := fun w h => (List.mem_cons_of_mem _ (List.mem_append_right _ h))
  have hret : ∀ (pc : Nat) (H : Heap) (locs : List Loc) (ls : Array Slot) (r' : Int32) (m_z_seed : Int32) (m_z_m : Nat → Int32) (m_z_refused : Nat → Int32), some (r', m_z_seed, m_z_m, m_z_refused) = some (r, n_z_seed, n_z_m, n_z_refused) → narrow .int (.int r') = .int r' → decode cX5_lots pc = .ok (.ireturn, 1) → WD D A [(a_z, .inr (5, [.ref a_z_s, .ref a_z_m, .ref a_z_image, .ref a_z_was, .int z_hasImage, .ref a_z_letters, .ref a_z_row, .ref a_z_refused, .int z_letterMany, .int z_rowMany, .int z_reading, .ref a_z_numbers, .int m_z_seed])), (a_z_s, .inl (cI, 45, .inl z_s)), (a_z_m, .inl (cI, 45, .inl m_z_m)), (a_z_refused, .inl (cI, 7, .inl m_z_refused))] H → va_S A s.heap H locs → W p l e rmX5_lots s m args below meth c H locs 0 0 Q (F0 m pc ls [.int r']) := by
    intro pc H locs ls r' m_z_seed m_z_m m_z_refused h hn hd hP hS
    cases h
    exact hret0 pc H locs ls hn hd hP hS
  have L84 : ∀ (x1_L84 : Int32) (x3_L84 : Int32) (x4_L84 : Int32) (x5_L84 : Int32) (z_refused_L84 : Nat → Int32) (n : Nat) (x6_L84 : Int32) (z_seed_L84 : Int32) (z_m_L84 : Nat → Int32) (tt0 : Int32) (tt1 : Nat → Int32) (H : Heap) (locs : List Loc) (ls : Array Slot), fX5_lots_L84 g z_s n x6_L84 z_seed_L84 z_m_L84 = some (tt0, tt1) → WD D A [(a_z, .inr (5, [.ref a_z_s, .ref a_z_m, .ref a_z_image, .ref a_z_was, .int z_hasImage, .ref a_z_letters, .ref a_z_row, .ref a_z_refused, .int z_letterMany, .int z_rowMany, .int z_reading, .ref a_z_numbers, .int z_seed_L84])), (a_z_s, .inl (cI, 45, .inl z_s)), (a_z_m, .inl (cI, 45, .inl z_m_L84)), (a_z_refused, .inl (cI, 7, .inl z_refused_L84))] H → va_S A s.heap H locs → lv_has ls 7 [(0, .ref a_z), (1, .int x1_L84), (3, .int x3_L84), (4, .int x4_L84), (5, .int x5_L84), (6, .int x6_L84)] → (∀ (H : Heap) (locs : List Loc) (ls : Array Slot), WD D A [(a_z, .inr (5, [.ref a_z_s, .ref a_z_m, .ref a_z_image, .ref a_z_was, .int z_hasImage, .ref a_z_letters, .ref a_z_row, .ref a_z_refused, .int z_letterMany, .int z_rowMany, .int z_reading, .ref a_z_numbers, .int tt0])), (a_z_s, .inl (cI, 45, .inl z_s)), (a_z_m, .inl (cI, 45, .inl tt1)), (a_z_refused, .inl (cI, 7, .inl z_refused_L84))] H → va_S A s.heap H locs → lv_has ls 7 [(0, .ref a_z), (1, .int x1_L84), (3, .int x3_L84), (4, .int x4_L84), (5, .int x5_L84)] → W p l e rmX5_lots s m args below meth c H locs 0 0 Q (F0 m 118 ls [])) → W p l e rmX5_lots s m args below meth c H locs 0 0 Q (F0 m 84 ls []) := by
    intro x1_L84 x3_L84 x4_L84 x5_L84 z_refused_L84 n
    induction n with
    | zero =>
      intro x6_L84 z_seed_L84 z_m_L84 tt0 tt1 H locs ls h
      exact (no_some h).elim
    | succ n ih =>
      intro x6_L84 z_seed_L84 z_m_L84 tt0 tt1 H locs ls h hP hS hl kE
      have h : fX5_lots_L84_b g z_s (fX5_lots_L84 g z_s n) x6_L84 z_seed_L84 z_m_L84 = some (tt0, tt1) := h
      unfold fX5_lots_L84_b at h
      refine lv_iload hx hb dX5_lots_84 (lv_at hl 5 rfl) ?_
      refine lv_aload_n hx hb dX5_lots_86 rfl (lv_at hl 0 rfl) ?_
      refine gt_X5_9 F iX5 (List.mem_cons_of_mem _ (List.mem_append_left _ (List.mem_append_left _ (List.mem_of_getElem? (i := 1) rfl)))) hP 0 rfl dX5_lots_87 ?_
      refine lv_iconst (v := 1) hx hb dX5_lots_90 (by decide) ?_
      refine r_ia F hP 1 rfl (j := 1) rfl (by decide) dX5_lots_91 ?_
      refine lv_icmp_ge (tgt := 118) hx hb dX5_lots_92 (by decide) (fun hc29 => ?_) (fun hc29 => ?_)
      · have h := it_p hc29 h
        cases h
        exact kE H locs ls hP hS (lv_sub hl [0, 1, 2, 3, 4] rfl)
      · have h := it_n hc29 h
        refine lv_aload_n hx hb dX5_lots_95 rfl (lv_at hl 0 rfl) ?_
        refine gt_X5_13 F iX5 (List.mem_cons_of_mem _ (List.mem_append_left _ (List.mem_append_left _ (List.mem_of_getElem? (i := 2) rfl)))) hP 0 rfl dX5_lots_96 ?_
        refine lv_iload hx hb dX5_lots_99 (lv_at hl 5 rfl) ?_
        refine lv_iconst (v := 3) hx hb dX5_lots_101 (by decide) ?_
        obtain ⟨r30, hk31, h⟩ := bd1_e h
        refine cS_i (rest := [.ref a_z_m]) F (kX5_of l D cI cJ H.size g x6_L84 3 r30 hk31) (va_cwS 2 hts gX5_lots_X5_of rfl rfl rfl eSX5_of ⟨Nat.le_of_ble_eq_true rfl, Nat.le_of_ble_eq_true rfl⟩) [] hP hS (by decide) rfl rfl rfl hl.1 (Nat.le_of_ble_eq_true rfl) ⟨Nat.le_refl _, Nat.le_refl _⟩ rfl dX5_lots_102 (fun H locs hP hS => ?_)
        have hP : WD D A [(a_z, .inr (5, [.ref a_z_s, .ref a_z_m, .ref a_z_image, .ref a_z_was, .int z_hasImage, .ref a_z_letters, .ref a_z_row, .ref a_z_refused, .int z_letterMany, .int z_rowMany, .int z_reading, .ref a_z_numbers, .int z_seed_L84])), (a_z_s, .inl (cI, 45, .inl z_s)), (a_z_m, .inl (cI, 45, .inl z_m_L84)), (a_z_refused, .inl (cI, 7, .inl z_refused_L84))] H := hP
        refine lv_aload_n hx hb dX5_lots_105 rfl (lv_at hl 0 rfl) ?_
        refine lv_bipush (v := 40) hx hb dX5_lots_106 (by decide) ?_
        obtain ⟨r32, z_seed_33, hk34, h⟩ := bd2_e h
        refine cV_i (rest := [.int r30, .ref a_z_m]) F (kX5_drawn l D cI cJ H.size g a_z a_z_s a_z_m a_z_image a_z_was a_z_letters a_z_row a_z_refused a_z_numbers z_hasImage z_letterMany z_rowMany z_reading z_seed_L84 40 r32 z_seed_33 hk34) (cwV 1 hts gX5_lots_X5_drawn rfl rfl rfl eVX5_drawn ⟨Nat.le_of_ble_eq_true rfl, Nat.le_of_ble_eq_true rfl⟩) [0] hP hS (by decide) rfl rfl 0 rfl rfl rfl hl.1 (Nat.le_of_ble_eq_true rfl) ⟨Nat.le_refl _, Nat.le_refl _⟩ rfl dX5_lots_108 (fun H locs hP hS => ?_)
        have hP : WD D A [(a_z, .inr (5, [.ref a_z_s, .ref a_z_m, .ref a_z_image, .ref a_z_was, .int z_hasImage, .ref a_z_letters, .ref a_z_row, .ref a_z_refused, .int z_letterMany, .int z_rowMany, .int z_reading, .ref a_z_numbers, .int z_seed_33])), (a_z_s, .inl (cI, 45, .inl z_s)), (a_z_m, .inl (cI, 45, .inl z_m_L84)), (a_z_refused, .inl (cI, 7, .inl z_refused_L84))] H := hP
        obtain ⟨hg35, h⟩ := gd_e h
        refine r_is F hP hS 2 rfl rfl hg35 dX5_lots_111 (fun H locs hP hS => ?_)
        have hP : WD D A [(a_z, .inr (5, [.ref a_z_s, .ref a_z_m, .ref a_z_image, .ref a_z_was, .int z_hasImage, .ref a_z_letters, .ref a_z_row, .ref a_z_refused, .int z_letterMany, .int z_rowMany, .int z_reading, .ref a_z_numbers, .int z_seed_33])), (a_z_s, .inl (cI, 45, .inl z_s)), (a_z_m, .inl (cI, 45, .inl (upd z_m_L84 r30.toNatClampNeg r32))), (a_z_refused, .inl (cI, 7, .inl z_refused_L84))] H := hP
        refine lv_iinc (v := x6_L84 + 1) (lv' := [(6, .int (x6_L84 + 1)), (0, .ref a_z), (1, .int x1_L84), (3, .int x3_L84), (4, .int x4_L84), (5, .int x5_L84)]) hx hb dX5_lots_112 hl (k := 5) rfl rfl (by decide) rfl (fun ls hl => ?_)
        refine lv_goto (tgt := 84) hx hb dX5_lots_115 (by decide) ?_
        exact ih (x6_L84 + 1) z_seed_33 (upd z_m_L84 r30.toNatClampNeg r32) tt0 tt1 H locs ls h hP hS (lv_sub hl [1, 2, 3, 4, 5, 0] rfl) kE
  have L52 : ∀ (x1_L52 : Int32) (x3_L52 : Int32) (z_refused_L52 : Nat → Int32) (n : Nat) (x4_L52 : Int32) (x5_L52 : Int32) (z_seed_L52 : Int32) (z_m_L52 : Nat → Int32) (tt0 : Int32) (tt1 : Int32) (tt2 : Nat → Int32) (H : Heap) (locs : List Loc) (ls : Array Slot), fX5_lots_L52 g x1_L52 x3_L52 z_s n x4_L52 x5_L52 z_seed_L52 z_m_L52 = some (tt0, tt1, tt2) → WD D A [(a_z, .inr (5, [.ref a_z_s, .ref a_z_m, .ref a_z_image, .ref a_z_was, .int z_hasImage, .ref a_z_letters, .ref a_z_row, .ref a_z_refused, .int z_letterMany, .int z_rowMany, .int z_reading, .ref a_z_numbers, .int z_seed_L52])), (a_z_s, .inl (cI, 45, .inl z_s)), (a_z_m, .inl (cI, 45, .inl z_m_L52)), (a_z_refused, .inl (cI, 7, .inl z_refused_L52))] H → va_S A s.heap H locs → lv_has ls 7 [(0, .ref a_z), (1, .int x1_L52), (3, .int x3_L52), (4, .int x4_L52), (5, .int x5_L52)] → (∀ (H : Heap) (locs : List Loc) (ls : Array Slot), WD D A [(a_z, .inr (5, [.ref a_z_s, .ref a_z_m, .ref a_z_image, .ref a_z_was, .int z_hasImage, .ref a_z_letters, .ref a_z_row, .ref a_z_refused, .int z_letterMany, .int z_rowMany, .int z_reading, .ref a_z_numbers, .int tt1])), (a_z_s, .inl (cI, 45, .inl z_s)), (a_z_m, .inl (cI, 45, .inl tt2)), (a_z_refused, .inl (cI, 7, .inl z_refused_L52))] H → va_S A s.heap H locs → lv_has ls 7 [(4, .int tt0)] → W p l e rmX5_lots s m args below meth c H locs 0 0 Q (F0 m 167 ls [])) → W p l e rmX5_lots s m args below meth c H locs 0 0 Q (F0 m 52 ls []) := by
    intro x1_L52 x3_L52 z_refused_L52 n
    induction n with
    | zero =>
      intro x4_L52 x5_L52 z_seed_L52 z_m_L52 tt0 tt1 tt2 H locs ls h
      exact (no_some h).elim
    | succ n ih =>
      intro x4_L52 x5_L52 z_seed_L52 z_m_L52 tt0 tt1 tt2 H locs ls h hP hS hl kE
      have h : fX5_lots_L52_b g x1_L52 x3_L52 z_s (fX5_lots_L52 g x1_L52 x3_L52 z_s n) x4_L52 x5_L52 z_seed_L52 z_m_L52 = some (tt0, tt1, tt2) := h
      unfold fX5_lots_L52_b at h
      refine lv_iload hx hb dX5_lots_52 (lv_at hl 4 rfl) ?_
      refine lv_iload_n hx hb dX5_lots_54 rfl (lv_at hl 1 rfl) ?_
      refine lv_icmp_ge (tgt := 167) hx hb dX5_lots_55 (by decide) (fun hc23 => ?_) (fun hc23 => ?_)
      · have h := it_p hc23 h
        cases h
        exact kE H locs ls hP hS (lv_sub hl [3] rfl)
      · have h := it_n hc23 h
        refine lv_aload_n hx hb dX5_lots_58 rfl (lv_at hl 0 rfl) ?_
        refine gt_X5_9 F iX5 (List.mem_cons_of_mem _ (List.mem_append_left _ (List.mem_append_left _ (List.mem_of_getElem? (i := 1) rfl)))) hP 0 rfl dX5_lots_59 ?_
        refine lv_aload_n hx hb dX5_lots_62 rfl (lv_at hl 0 rfl) ?_
        refine gt_X5_13 F iX5 (List.mem_cons_of_mem _ (List.mem_append_left _ (List.mem_append_left _ (List.mem_of_getElem? (i := 2) rfl)))) hP 0 rfl dX5_lots_63 ?_
        obtain ⟨z_m_24, hk25, h⟩ := bd1_e h
        refine cS_v (rest := []) F (kX5_copies l D cI cJ H.size g a_z_s a_z_m z_s z_m_L52 z_m_24 hk25) (va_cwS 2 hts gX5_lots_X5_copies rfl rfl rfl eSX5_copies ⟨Nat.le_of_ble_eq_true rfl, Nat.le_of_ble_eq_true rfl⟩) [1, 2] hP hS (by decide) rfl rfl rfl hl.1 (Nat.le_of_ble_eq_true rfl) ⟨Nat.le_refl _, Nat.le_refl _⟩ rfl dX5_lots_66 (fun H locs hP hS => ?_)
        have hP : WD D A [(a_z, .inr (5, [.ref a_z_s, .ref a_z_m, .ref a_z_image, .ref a_z_was, .int z_hasImage, .ref a_z_letters, .ref a_z_row, .ref a_z_refused, .int z_letterMany, .int z_rowMany, .int z_reading, .ref a_z_numbers, .int z_seed_L52])), (a_z_s, .inl (cI, 45, .inl z_s)), (a_z_m, .inl (cI, 45, .inl z_m_24)), (a_z_refused, .inl (cI, 7, .inl z_refused_L52))] H := hP
        refine lv_aload_n hx hb dX5_lots_69 rfl (lv_at hl 0 rfl) ?_
        refine gt_X5_13 F iX5 (List.mem_cons_of_mem _ (List.mem_append_left _ (List.mem_append_left _ (List.mem_of_getElem? (i := 2) rfl)))) hP 0 rfl dX5_lots_70 ?_
        refine lv_iconst (v := 3) hx hb dX5_lots_73 (by decide) ?_
        refine lv_aload_n hx hb dX5_lots_74 rfl (lv_at hl 0 rfl) ?_
        refine lv_bipush (v := 64) hx hb dX5_lots_75 (by decide) ?_
        obtain ⟨r26, z_seed_27, hk28, h⟩ := bd2_e h
        refine cV_i (rest := [.int 3, .ref a_z_m]) F (kX5_drawn l D cI cJ H.size g a_z a_z_s a_z_m a_z_image a_z_was a_z_letters a_z_row a_z_refused a_z_numbers z_hasImage z_letterMany z_rowMany z_reading z_seed_L52 64 r26 z_seed_27 hk28) (cwV 1 hts gX5_lots_X5_drawn rfl rfl rfl eVX5_drawn ⟨Nat.le_of_ble_eq_true rfl, Nat.le_of_ble_eq_true rfl⟩) [0] hP hS (by decide) rfl rfl 0 rfl rfl rfl hl.1 (Nat.le_of_ble_eq_true rfl) ⟨Nat.le_refl _, Nat.le_refl _⟩ rfl dX5_lots_77 (fun H locs hP hS => ?_)
        have hP : WD D A [(a_z, .inr (5, [.ref a_z_s, .ref a_z_m, .ref a_z_image, .ref a_z_was, .int z_hasImage, .ref a_z_letters, .ref a_z_row, .ref a_z_refused, .int z_letterMany, .int z_rowMany, .int z_reading, .ref a_z_numbers, .int z_seed_27])), (a_z_s, .inl (cI, 45, .inl z_s)), (a_z_m, .inl (cI, 45, .inl z_m_24)), (a_z_refused, .inl (cI, 7, .inl z_refused_L52))] H := hP
        refine r_is F hP hS 2 rfl (j := 3) rfl (by decide) dX5_lots_80 (fun H locs hP hS => ?_)
        have hP : WD D A [(a_z, .inr (5, [.ref a_z_s, .ref a_z_m, .ref a_z_image, .ref a_z_was, .int z_hasImage, .ref a_z_letters, .ref a_z_row, .ref a_z_refused, .int z_letterMany, .int z_rowMany, .int z_reading, .ref a_z_numbers, .int z_seed_27])), (a_z_s, .inl (cI, 45, .inl z_s)), (a_z_m, .inl (cI, 45, .inl (upd z_m_24 3 r26))), (a_z_refused, .inl (cI, 7, .inl z_refused_L52))] H := hP
        refine lv_iconst (v := 0) hx hb dX5_lots_81 (by decide) ?_
        refine lv_istore (lv' := [(6, .int 0), (0, .ref a_z), (1, .int x1_L52), (3, .int x3_L52), (4, .int x4_L52), (5, .int x5_L52)]) hx hb dX5_lots_82 hl (by decide) rfl (fun ls hl => ?_)
        obtain ⟨t36, t37, hk44, h⟩ := bd2_e h
        refine L84 x1_L52 x3_L52 x4_L52 x5_L52 z_refused_L52 g 0 z_seed_27 (upd z_m_24 3 r26) t36 t37 H locs ls hk44 hP hS (lv_sub hl [1, 2, 3, 4, 5, 0] rfl) (fun H locs ls hP hS hl => ?_)
        refine lv_aload_n hx hb dX5_lots_118 rfl (lv_at hl 0 rfl) ?_
        refine gt_X5_13 F iX5 (List.mem_cons_of_mem _ (List.mem_append_left _ (List.mem_append_left _ (List.mem_of_getElem? (i := 2) rfl)))) hP 0 rfl dX5_lots_119 ?_
        refine lv_bipush (v := 12) hx hb dX5_lots_122 (by decide) ?_
        obtain ⟨z_m_38, hk39, h⟩ := bd1_e h
        refine cS_v (rest := []) F (kX5_daysOn l D cI cJ H.size g a_z_m t37 12 z_m_38 hk39) (va_cwS 2 hts gX5_lots_X5_daysOn rfl rfl rfl eSX5_daysOn ⟨Nat.le_of_ble_eq_true rfl, Nat.le_of_ble_eq_true rfl⟩) [2] hP hS (by decide) rfl rfl rfl hl.1 (Nat.le_of_ble_eq_true rfl) ⟨Nat.le_refl _, Nat.le_refl _⟩ rfl dX5_lots_124 (fun H locs hP hS => ?_)
        have hP : WD D A [(a_z, .inr (5, [.ref a_z_s, .ref a_z_m, .ref a_z_image, .ref a_z_was, .int z_hasImage, .ref a_z_letters, .ref a_z_row, .ref a_z_refused, .int z_letterMany, .int z_rowMany, .int z_reading, .ref a_z_numbers, .int t36])), (a_z_s, .inl (cI, 45, .inl z_s)), (a_z_m, .inl (cI, 45, .inl z_m_38)), (a_z_refused, .inl (cI, 7, .inl z_refused_L52))] H := hP
        refine lv_iload hx hb dX5_lots_127 (lv_at hl 3 rfl) ?_
        refine lv_iload_n hx hb dX5_lots_129 rfl (lv_at hl 2 rfl) ?_
        refine lv_iconst (v := 1) hx hb dX5_lots_130 (by decide) ?_
        refine lv_icmp_ne (tgt := 143) hx hb dX5_lots_131 (by decide) (fun hc40 => ?_) (fun hc40 => ?_)
        · have h := it_n hc40 h
          refine lv_aload_n hx hb dX5_lots_143 rfl (lv_at hl 0 rfl) ?_
          refine gt_X5_13 F iX5 (List.mem_cons_of_mem _ (List.mem_append_left _ (List.mem_append_left _ (List.mem_of_getElem? (i := 2) rfl)))) hP 0 rfl dX5_lots_144 ?_
          obtain ⟨r41, hk42, h⟩ := bd1_e h
          refine cS_i (rest := [.int x4_L52]) F (kX5_placeAt l D cI cJ H.size g a_z_m z_m_38 r41 hk42) (va_cwS 1 hts gX5_lots_X5_placeAt rfl rfl rfl eSX5_placeAt ⟨Nat.le_of_ble_eq_true rfl, Nat.le_of_ble_eq_true rfl⟩) [2] hP hS (by decide) rfl rfl rfl hl.1 (Nat.le_of_ble_eq_true rfl) ⟨Nat.le_refl _, Nat.le_refl _⟩ rfl dX5_lots_147 (fun H locs hP hS => ?_)
          have hP : WD D A [(a_z, .inr (5, [.ref a_z_s, .ref a_z_m, .ref a_z_image, .ref a_z_was, .int z_hasImage, .ref a_z_letters, .ref a_z_row, .ref a_z_refused, .int z_letterMany, .int z_rowMany, .int z_reading, .ref a_z_numbers, .int t36])), (a_z_s, .inl (cI, 45, .inl z_s)), (a_z_m, .inl (cI, 45, .inl z_m_38)), (a_z_refused, .inl (cI, 7, .inl z_refused_L52))] H := hP
          refine lv_if_lt (tgt := 157) hx hb dX5_lots_150 (by decide) (fun hc43 => ?_) (fun hc43 => ?_)
          · have h := it_p hc43 h
            refine lv_iconst (v := 0) hx hb dX5_lots_157 (by decide) ?_
            refine lv_iadd hx hb dX5_lots_158 ?_
            refine lv_istore (lv' := [(4, .int (x4_L52 + 0)), (0, .ref a_z), (1, .int x1_L52), (3, .int x3_L52), (5, .int x5_L52)]) hx hb dX5_lots_159 hl (by decide) rfl (fun ls hl => ?_)
            refine lv_iinc (v := x5_L52 + 1) (lv' := [(5, .int (x5_L52 + 1)), (4, .int (x4_L52 + 0)), (0, .ref a_z), (1, .int x1_L52), (3, .int x3_L52)]) hx hb dX5_lots_161 hl (k := 4) rfl rfl (by decide) rfl (fun ls hl => ?_)
            refine lv_goto (tgt := 52) hx hb dX5_lots_164 (by decide) ?_
            exact ih (x4_L52 + 0) (x5_L52 + 1) t36 z_m_38 tt0 tt1 tt2 H locs ls h hP hS (lv_sub hl [2, 3, 4, 1, 0] rfl) kE
          · have h := it_n hc43 h
            refine lv_iconst (v := 1) hx hb dX5_lots_153 (by decide) ?_
            refine lv_goto (tgt := 158) hx hb dX5_lots_154 (by decide) ?_
            refine lv_iadd hx hb dX5_lots_158 ?_
            refine lv_istore (lv' := [(4, .int (x4_L52 + 1)), (0, .ref a_z), (1, .int x1_L52), (3, .int x3_L52), (5, .int x5_L52)]) hx hb dX5_lots_159 hl (by decide) rfl (fun ls hl => ?_)
            refine lv_iinc (v := x5_L52 + 1) (lv' := [(5, .int (x5_L52 + 1)), (4, .int (x4_L52 + 1)), (0, .ref a_z), (1, .int x1_L52), (3, .int x3_L52)]) hx hb dX5_lots_161 hl (k := 4) rfl rfl (by decide) rfl (fun ls hl => ?_)
            refine lv_goto (tgt := 52) hx hb dX5_lots_164 (by decide) ?_
            exact ih (x4_L52 + 1) (x5_L52 + 1) t36 z_m_38 tt0 tt1 tt2 H locs ls h hP hS (lv_sub hl [2, 3, 4, 1, 0] rfl) kE
        · have h := it_p hc40 h
          refine lv_aload_n hx hb dX5_lots_134 rfl (lv_at hl 0 rfl) ?_
          refine gt_X5_13 F iX5 (List.mem_cons_of_mem _ (List.mem_append_left _ (List.mem_append_left _ (List.mem_of_getElem? (i := 2) rfl)))) hP 0 rfl dX5_lots_135 ?_
          refine lv_iconst (v := 3) hx hb dX5_lots_138 (by decide) ?_
          refine r_ia F hP 2 rfl (j := 3) rfl (by decide) dX5_lots_139 ?_
          refine lv_goto (tgt := 158) hx hb dX5_lots_140 (by decide) ?_
          refine lv_iadd hx hb dX5_lots_158 ?_
          refine lv_istore (lv' := [(4, .int (x4_L52 + (z_m_38 3))), (0, .ref a_z), (1, .int x1_L52), (3, .int x3_L52), (5, .int x5_L52)]) hx hb dX5_lots_159 hl (by decide) rfl (fun ls hl => ?_)
          refine lv_iinc (v := x5_L52 + 1) (lv' := [(5, .int (x5_L52 + 1)), (4, .int (x4_L52 + (z_m_38 3))), (0, .ref a_z), (1, .int x1_L52), (3, .int x3_L52)]) hx hb dX5_lots_161 hl (k := 4) rfl rfl (by decide) rfl (fun ls hl => ?_)
          refine lv_goto (tgt := 52) hx hb dX5_lots_164 (by decide) ?_
          exact ih (x4_L52 + (z_m_38 3)) (x5_L52 + 1) t36 z_m_38 tt0 tt1 tt2 H locs ls h hP hS (lv_sub hl [2, 3, 4, 1, 0] rfl) kE
  have hl : lv_has ls 7 [(0, .ref a_z), (1, .int p0), (2, .int p1), (3, .int p2)] := hl
  have h := hf
  unfold fX5_lots at h
  refine lv_iload_n hx hb dX5_lots_0 rfl (lv_at hl 1 rfl) ?_
  refine lv_iconst (v := 1) hx hb dX5_lots_1 (by decide) ?_
  refine lv_icmp_ge (tgt := 12) hx hb dX5_lots_2 (by decide) (fun hc18 => ?_) (fun hc18 => ?_)
  · have h := it_p hc18 h
    refine lv_iload_n hx hb dX5_lots_12 rfl (lv_at hl 1 rfl) ?_
    refine lv_bipush (v := 20) hx hb dX5_lots_13 (by decide) ?_
    refine lv_icmp_le (tgt := 25) hx hb dX5_lots_15 (by decide) (fun hc19 => ?_) (fun hc19 => ?_)
    · have h := it_p hc19 h
      refine lv_iload_n hx hb dX5_lots_25 rfl (lv_at hl 3 rfl) ?_
      refine lv_iconst (v := 0) hx hb dX5_lots_26 (by decide) ?_
      refine lv_iconst (v := 1) hx hb dX5_lots_27 (by decide) ?_
      obtain ⟨r20, hk21, h⟩ := bd1_e h
      refine cS_i (rest := []) F (kX5_isIn l D cI cJ H.size g p2 0 1 r20 hk21) (va_cwS 3 hts gX5_lots_X5_isIn rfl rfl rfl eSX5_isIn ⟨Nat.le_of_ble_eq_true rfl, Nat.le_of_ble_eq_true rfl⟩) [] hP hS (by decide) rfl rfl rfl hl.1 (Nat.le_of_ble_eq_true rfl) ⟨Nat.le_refl _, Nat.le_refl _⟩ rfl dX5_lots_28 (fun H locs hP hS => ?_)
      have hP : WD D A [(a_z, .inr (5, [.ref a_z_s, .ref a_z_m, .ref a_z_image, .ref a_z_was, .int z_hasImage, .ref a_z_letters, .ref a_z_row, .ref a_z_refused, .int z_letterMany, .int z_rowMany, .int z_reading, .ref a_z_numbers, .int z_seed])), (a_z_s, .inl (cI, 45, .inl z_s)), (a_z_m, .inl (cI, 45, .inl z_m)), (a_z_refused, .inl (cI, 7, .inl z_refused))] H := hP
      refine lv_if_ne (tgt := 41) hx hb dX5_lots_31 (by decide) (fun hc22 => ?_) (fun hc22 => ?_)
      · have h := it_n hc22 h
        refine lv_aload_n hx hb dX5_lots_41 rfl (lv_at hl 0 rfl) ?_
        refine lv_iload_n hx hb dX5_lots_42 rfl (lv_at hl 2 rfl) ?_
        refine pt_X5_204 F iX5 (List.mem_cons_of_mem _ (List.mem_append_left _ (List.mem_append_left _ (List.mem_of_getElem? (i := 0) rfl)))) hP hS 0 rfl dX5_lots_43 (fun H locs hP hS => ?_)
        have hP : WD D A [(a_z, .inr (5, [.ref a_z_s, .ref a_z_m, .ref a_z_image, .ref a_z_was, .int z_hasImage, .ref a_z_letters, .ref a_z_row, .ref a_z_refused, .int z_letterMany, .int z_rowMany, .int z_reading, .ref a_z_numbers, .int p1])), (a_z_s, .inl (cI, 45, .inl z_s)), (a_z_m, .inl (cI, 45, .inl z_m)), (a_z_refused, .inl (cI, 7, .inl z_refused))] H := hP
        refine lv_iconst (v := 0) hx hb dX5_lots_46 (by decide) ?_
        refine lv_istore (lv' := [(4, .int 0), (0, .ref a_z), (1, .int p0), (2, .int p1), (3, .int p2)]) hx hb dX5_lots_47 hl (by decide) rfl (fun ls hl => ?_)
        refine lv_iconst (v := 0) hx hb dX5_lots_49 (by decide) ?_
        refine lv_istore (lv' := [(5, .int 0), (4, .int 0), (0, .ref a_z), (1, .int p0), (2, .int p1), (3, .int p2)]) hx hb dX5_lots_50 hl (by decide) rfl (fun ls hl => ?_)
        obtain ⟨t46, t47, t48, hk49, h⟩ := bd3_e h
        refine L52 p0 p2 z_refused g 0 0 p1 z_m t46 t47 t48 H locs ls hk49 hP hS (lv_sub hl [2, 3, 5, 1, 0] rfl) (fun H locs ls hP hS hl => ?_)
        refine lv_iload hx hb dX5_lots_167 (lv_at hl 0 rfl) ?_
        exact hret 169 H locs ls t46 t47 t48 z_refused h rfl dX5_lots_169 hP hS
      · have h := it_p hc22 h
        refine lv_aload_n hx hb dX5_lots_34 rfl (lv_at hl 0 rfl) ?_
        refine lv_bipush (v := (-2)) hx hb dX5_lots_35 (by decide) ?_
        obtain ⟨r51, z_refused_52, hk53, h⟩ := bd2_e h
        refine cV_i (rest := []) F (kX5_no l D cI cJ H.size g a_z a_z_s a_z_m a_z_image a_z_was a_z_letters a_z_row a_z_refused a_z_numbers z_hasImage z_letterMany z_rowMany z_reading z_seed z_refused (-2) r51 z_refused_52 hk53) (cwV 1 hts gX5_lots_X5_no rfl rfl rfl eVX5_no ⟨Nat.le_of_ble_eq_true rfl, Nat.le_of_ble_eq_true rfl⟩) [0, 3] hP hS (by decide) rfl rfl 0 rfl rfl rfl hl.1 (Nat.le_of_ble_eq_true rfl) ⟨Nat.le_refl _, Nat.le_refl _⟩ rfl dX5_lots_37 (fun H locs hP hS => ?_)
        have hP : WD D A [(a_z, .inr (5, [.ref a_z_s, .ref a_z_m, .ref a_z_image, .ref a_z_was, .int z_hasImage, .ref a_z_letters, .ref a_z_row, .ref a_z_refused, .int z_letterMany, .int z_rowMany, .int z_reading, .ref a_z_numbers, .int z_seed])), (a_z_s, .inl (cI, 45, .inl z_s)), (a_z_m, .inl (cI, 45, .inl z_m)), (a_z_refused, .inl (cI, 7, .inl z_refused_52))] H := hP
        exact hret 40 H locs ls r51 z_seed z_m z_refused_52 h rfl dX5_lots_40 hP hS
    · have h := it_n hc19 h
      refine lv_aload_n hx hb dX5_lots_18 rfl (lv_at hl 0 rfl) ?_
      refine lv_bipush (v := (-6)) hx hb dX5_lots_19 (by decide) ?_
      obtain ⟨r54, z_refused_55, hk56, h⟩ := bd2_e h
      refine cV_i (rest := []) F (kX5_no l D cI cJ H.size g a_z a_z_s a_z_m a_z_image a_z_was a_z_letters a_z_row a_z_refused a_z_numbers z_hasImage z_letterMany z_rowMany z_reading z_seed z_refused (-6) r54 z_refused_55 hk56) (cwV 1 hts gX5_lots_X5_no rfl rfl rfl eVX5_no ⟨Nat.le_of_ble_eq_true rfl, Nat.le_of_ble_eq_true rfl⟩) [0, 3] hP hS (by decide) rfl rfl 0 rfl rfl rfl hl.1 (Nat.le_of_ble_eq_true rfl) ⟨Nat.le_refl _, Nat.le_refl _⟩ rfl dX5_lots_21 (fun H locs hP hS => ?_)
      have hP : WD D A [(a_z, .inr (5, [.ref a_z_s, .ref a_z_m, .ref a_z_image, .ref a_z_was, .int z_hasImage, .ref a_z_letters, .ref a_z_row, .ref a_z_refused, .int z_letterMany, .int z_rowMany, .int z_reading, .ref a_z_numbers, .int z_seed])), (a_z_s, .inl (cI, 45, .inl z_s)), (a_z_m, .inl (cI, 45, .inl z_m)), (a_z_refused, .inl (cI, 7, .inl z_refused_55))] H := hP
      exact hret 24 H locs ls r54 z_seed z_m z_refused_55 h rfl dX5_lots_24 hP hS
  · have h := it_n hc18 h
    refine lv_aload_n hx hb dX5_lots_5 rfl (lv_at hl 0 rfl) ?_
    refine lv_bipush (v := (-4)) hx hb dX5_lots_6 (by decide) ?_
    obtain ⟨r57, z_refused_58, hk59, h⟩ := bd2_e h
    refine cV_i (rest := []) F (kX5_no l D cI cJ H.size g a_z a_z_s a_z_m a_z_image a_z_was a_z_letters a_z_row a_z_refused a_z_numbers z_hasImage z_letterMany z_rowMany z_reading z_seed z_refused (-4) r57 z_refused_58 hk59) (cwV 1 hts gX5_lots_X5_no rfl rfl rfl eVX5_no ⟨Nat.le_of_ble_eq_true rfl, Nat.le_of_ble_eq_true rfl⟩) [0, 3] hP hS (by decide) rfl rfl 0 rfl rfl rfl hl.1 (Nat.le_of_ble_eq_true rfl) ⟨Nat.le_refl _, Nat.le_refl _⟩ rfl dX5_lots_8 (fun H locs hP hS => ?_)
    have hP : WD D A [(a_z, .inr (5, [.ref a_z_s, .ref a_z_m, .ref a_z_image, .ref a_z_was, .int z_hasImage, .ref a_z_letters, .ref a_z_row, .ref a_z_refused, .int z_letterMany, .int z_rowMany, .int z_reading, .ref a_z_numbers, .int z_seed])), (a_z_s, .inl (cI, 45, .inl z_s)), (a_z_m, .inl (cI, 45, .inl z_m)), (a_z_refused, .inl (cI, 7, .inl z_refused_58))] H := hP
    exact hret 11 H locs ls r57 z_seed z_m z_refused_58 h rfl dX5_lots_11 hP hS
theorem eSX5_image : yX5_image.cls ≠ "java/lang/invoke/MethodHandle" ∧ yX5_image.cls ≠ "java/lang/invoke/VarHandle" ∧ (parseMethodDescriptor yX5_image.desc).map (fun d => d.parameters.length) = some 0 := by decide +kernel
theorem eVX5_image : yX5_image.cls = RX5 ∧ yX5_image.cls ≠ "java/lang/invoke/MethodHandle" ∧ yX5_image.cls ≠ "java/lang/invoke/VarHandle" ∧ (parseMethodDescriptor yX5_image.desc).map (fun d => d.parameters.length) = some 0 := ⟨rfl, eSX5_image⟩
abbrev rmX5_image : Room := { frames := 1, cells := 0, slots := 0, locals := 22 }
def fX5_image (g : Nat) (z_s : Nat → Int32) (z_image : Nat → Int32) : Option (Int32 × Int32 × (Nat → Int32)) := bd1 (fX5_copies g z_s z_image) fun z_image_3 => (some (z_s 2, 1, z_image_3))
set_option maxHeartbeats 4000000 in
set_option maxRecDepth 100000 in
theorem kX5_image (l : Launch) (D : va_G) (cI cJ : ClassId) (sz g : Nat) (a_z a_z_s a_z_m a_z_image a_z_was a_z_letters a_z_row a_z_refused a_z_numbers : Nat) (z_hasImage : Int32) (z_letterMany : Int32) (z_rowMany : Int32) (z_reading : Int32) (z_seed : Int32) (z_s : Nat → Int32) (z_image : Nat → Int32) (r : Int32) (n_z_hasImage : Int32) (n_z_image : Nat → Int32) (hf : fX5_image g z_s z_image = some (r, n_z_hasImage, n_z_image)) : Met l yX5_image wsX5_image rmX5_image (va_Pc [.ref a_z] (sPc D (tyL cI cJ) [(a_z, .inr (5, [.ref a_z_s, .ref a_z_m, .ref a_z_image, .ref a_z_was, .int z_hasImage, .ref a_z_letters, .ref a_z_row, .ref a_z_refused, .int z_letterMany, .int z_rowMany, .int z_reading, .ref a_z_numbers, .int z_seed])), (a_z_s, .inl (cI, 45, .inl z_s)), (a_z_image, .inl (cI, 45, .inl z_image))] sz)) (qI D (tyL cI cJ) [(a_z, .inr (5, [.ref a_z_s, .ref a_z_m, .ref a_z_image, .ref a_z_was, .int z_hasImage, .ref a_z_letters, .ref a_z_row, .ref a_z_refused, .int z_letterMany, .int z_rowMany, .int z_reading, .ref a_z_numbers, .int z_seed])), (a_z_s, .inl (cI, 45, .inl z_s)), (a_z_image, .inl (cI, 45, .inl z_image))] sz [(a_z, .inr (5, [.ref a_z_s, .ref a_z_m, .ref a_z_image, .ref a_z_was, .int n_z_hasImage, .ref a_z_letters, .ref a_z_row, .ref a_z_refused, .int z_letterMany, .int z_rowMany, .int z_reading, .ref a_z_numbers, .int z_seed])), (a_z_s, .inl (cI, 45, .inl z_s)), (a_z_image, .inl (cI, 45, .inl n_z_image))] r) 0 0 (va_A [(a_z, .inr (5, [.ref a_z_s, .ref a_z_m, .ref a_z_image, .ref a_z_was, .int z_hasImage, .ref a_z_letters, .ref a_z_row, .ref a_z_refused, .int z_letterMany, .int z_rowMany, .int z_reading, .ref a_z_numbers, .int z_seed])), (a_z_s, .inl (cI, 45, .inl z_s)), (a_z_image, .inl (cI, 45, .inl z_image))] sz) := by
  refine st_i (cc := cX5_image) (maxL := 1) (by decide) rfl (Nat.le_of_ble_eq_true rfl) ?_
  intro p e s m args below meth c A Q F hret0 H locs hP hS ls hl
  have F : Cx p s m args c cX5_image 1 wsX5_image RX5 D (tyL cI cJ) A := F
  have hx := F.1.1
  have hb := F.1.2.1
  have hown := F.1.2.2.2.1
  have hts := F.1.2.2.2.2
  have iX5 : ∀ w ∈ wsX50, w ∈ wsX5_image := fun w h => (List.mem_cons_of_mem _ (List.mem_append_right _ h))
  have hret : ∀ (pc : Nat) (H : Heap) (locs : List Loc) (ls : Array Slot) (r' : Int32) (m_z_hasImage : Int32) (m_z_image : Nat → Int32), some (r', m_z_hasImage, m_z_image) = some (r, n_z_hasImage, n_z_image) → narrow .int (.int r') = .int r' → decode cX5_image pc = .ok (.ireturn, 1) → WD D A [(a_z, .inr (5, [.ref a_z_s, .ref a_z_m, .ref a_z_image, .ref a_z_was, .int m_z_hasImage, .ref a_z_letters, .ref a_z_row, .ref a_z_refused, .int z_letterMany, .int z_rowMany, .int z_reading, .ref a_z_numbers, .int z_seed])), (a_z_s, .inl (cI, 45, .inl z_s)), (a_z_image, .inl (cI, 45, .inl m_z_image))] H → va_S A s.heap H locs → W p l e rmX5_image s m args below meth c H locs 0 0 Q (F0 m pc ls [.int r']) := by
    intro pc H locs ls r' m_z_hasImage m_z_image h hn hd hP hS
    cases h
    exact hret0 pc H locs ls hn hd hP hS
  have hl : lv_has ls 1 [(0, .ref a_z)] := hl
  have h := hf
  unfold fX5_image at h
  refine lv_aload_n hx hb dX5_image_0 rfl (lv_at hl 0 rfl) ?_
  refine gt_X5_9 F iX5 (List.mem_cons_of_mem _ (List.mem_append_left _ (List.mem_of_getElem? (i := 0) rfl))) hP 0 rfl dX5_image_1 ?_
  refine lv_aload_n hx hb dX5_image_4 rfl (lv_at hl 0 rfl) ?_
  refine gt_X5_16 F iX5 (List.mem_cons_of_mem _ (List.mem_append_left _ (List.mem_of_getElem? (i := 1) rfl))) hP 0 rfl dX5_image_5 ?_
  obtain ⟨z_image_3, hk4, h⟩ := bd1_e h
  refine cS_v (rest := []) F (kX5_copies l D cI cJ H.size g a_z_s a_z_image z_s z_image z_image_3 hk4) (va_cwS 2 hts gX5_image_X5_copies rfl rfl rfl eSX5_copies ⟨Nat.le_of_ble_eq_true rfl, Nat.le_of_ble_eq_true rfl⟩) [1, 2] hP hS (by decide) rfl rfl rfl hl.1 (Nat.le_of_ble_eq_true rfl) ⟨Nat.le_refl _, Nat.le_refl _⟩ rfl dX5_image_8 (fun H locs hP hS => ?_)
  have hP : WD D A [(a_z, .inr (5, [.ref a_z_s, .ref a_z_m, .ref a_z_image, .ref a_z_was, .int z_hasImage, .ref a_z_letters, .ref a_z_row, .ref a_z_refused, .int z_letterMany, .int z_rowMany, .int z_reading, .ref a_z_numbers, .int z_seed])), (a_z_s, .inl (cI, 45, .inl z_s)), (a_z_image, .inl (cI, 45, .inl z_image_3))] H := hP
  refine lv_aload_n hx hb dX5_image_11 rfl (lv_at hl 0 rfl) ?_
  refine lv_iconst (v := 1) hx hb dX5_image_12 (by decide) ?_
  refine pt_X5_213 F iX5 (List.mem_cons_of_mem _ (List.mem_append_left _ (List.mem_of_getElem? (i := 2) rfl))) hP hS 0 rfl ⟨rfl, rfl⟩ dX5_image_13 (fun H locs hP hS => ?_)
  have hP : WD D A [(a_z, .inr (5, [.ref a_z_s, .ref a_z_m, .ref a_z_image, .ref a_z_was, .int 1, .ref a_z_letters, .ref a_z_row, .ref a_z_refused, .int z_letterMany, .int z_rowMany, .int z_reading, .ref a_z_numbers, .int z_seed])), (a_z_s, .inl (cI, 45, .inl z_s)), (a_z_image, .inl (cI, 45, .inl z_image_3))] H := hP
  refine lv_aload_n hx hb dX5_image_16 rfl (lv_at hl 0 rfl) ?_
  refine gt_X5_9 F iX5 (List.mem_cons_of_mem _ (List.mem_append_left _ (List.mem_of_getElem? (i := 0) rfl))) hP 0 rfl dX5_image_17 ?_
  refine lv_iconst (v := 2) hx hb dX5_image_20 (by decide) ?_
  refine r_ia F hP 1 rfl (j := 2) rfl (by decide) dX5_image_21 ?_
  exact hret 22 H locs ls (z_s 2) 1 z_image_3 h rfl dX5_image_22 hP hS
theorem eSX5_on : yX5_on.cls ≠ "java/lang/invoke/MethodHandle" ∧ yX5_on.cls ≠ "java/lang/invoke/VarHandle" ∧ (parseMethodDescriptor yX5_on.desc).map (fun d => d.parameters.length) = some 0 := by decide +kernel
theorem eVX5_on : yX5_on.cls = RX5 ∧ yX5_on.cls ≠ "java/lang/invoke/MethodHandle" ∧ yX5_on.cls ≠ "java/lang/invoke/VarHandle" ∧ (parseMethodDescriptor yX5_on.desc).map (fun d => d.parameters.length) = some 0 := ⟨rfl, eSX5_on⟩
abbrev rmX5_on : Room := { frames := 1, cells := 0, slots := 0, locals := 22 }
def fX5_on (g : Nat) (z_hasImage : Int32) (z_s : Nat → Int32) (z_image : Nat → Int32) (z_refused : Nat → Int32) : Option (Int32 × (Nat → Int32) × (Nat → Int32)) := if z_hasImage = 0 then (bd2 (fX5_no g (-3) z_refused) fun r10 z_refused_11 => (some (r10, z_s, z_refused_11))) else (bd1 (fX5_copies g z_image z_s) fun z_s_8 => (some (z_s_8 2, z_s_8, z_refused)))
set_option maxHeartbeats 4000000 in
set_option maxRecDepth 100000 in
theorem kX5_on (l : Launch) (D : va_G) (cI cJ : ClassId) (sz g : Nat) (a_z a_z_s a_z_m a_z_image a_z_was a_z_letters a_z_row a_z_refused a_z_numbers : Nat) (z_hasImage : Int32) (z_letterMany : Int32) (z_rowMany : Int32) (z_reading : Int32) (z_seed : Int32) (z_s : Nat → Int32) (z_image : Nat → Int32) (z_refused : Nat → Int32) (r : Int32) (n_z_s : Nat → Int32) (n_z_refused : Nat → Int32) (hf : fX5_on g z_hasImage z_s z_image z_refused = some (r, n_z_s, n_z_refused)) : Met l yX5_on wsX5_on rmX5_on (va_Pc [.ref a_z] (sPc D (tyL cI cJ) [(a_z, .inr (5, [.ref a_z_s, .ref a_z_m, .ref a_z_image, .ref a_z_was, .int z_hasImage, .ref a_z_letters, .ref a_z_row, .ref a_z_refused, .int z_letterMany, .int z_rowMany, .int z_reading, .ref a_z_numbers, .int z_seed])), (a_z_s, .inl (cI, 45, .inl z_s)), (a_z_image, .inl (cI, 45, .inl z_image)), (a_z_refused, .inl (cI, 7, .inl z_refused))] sz)) (qI D (tyL cI cJ) [(a_z, .inr (5, [.ref a_z_s, .ref a_z_m, .ref a_z_image, .ref a_z_was, .int z_hasImage, .ref a_z_letters, .ref a_z_row, .ref a_z_refused, .int z_letterMany, .int z_rowMany, .int z_reading, .ref a_z_numbers, .int z_seed])), (a_z_s, .inl (cI, 45, .inl z_s)), (a_z_image, .inl (cI, 45, .inl z_image)), (a_z_refused, .inl (cI, 7, .inl z_refused))] sz [(a_z, .inr (5, [.ref a_z_s, .ref a_z_m, .ref a_z_image, .ref a_z_was, .int z_hasImage, .ref a_z_letters, .ref a_z_row, .ref a_z_refused, .int z_letterMany, .int z_rowMany, .int z_reading, .ref a_z_numbers, .int z_seed])), (a_z_s, .inl (cI, 45, .inl n_z_s)), (a_z_image, .inl (cI, 45, .inl z_image)), (a_z_refused, .inl (cI, 7, .inl n_z_refused))] r) 0 0 (va_A [(a_z, .inr (5, [.ref a_z_s, .ref a_z_m, .ref a_z_image, .ref a_z_was, .int z_hasImage, .ref a_z_letters, .ref a_z_row, .ref a_z_refused, .int z_letterMany, .int z_rowMany, .int z_reading, .ref a_z_numbers, .int z_seed])), (a_z_s, .inl (cI, 45, .inl z_s)), (a_z_image, .inl (cI, 45, .inl z_image)), (a_z_refused, .inl (cI, 7, .inl z_refused))] sz) := by
  refine st_i (cc := cX5_on) (maxL := 1) (by decide) rfl (Nat.le_of_ble_eq_true rfl) ?_
  intro p e s m args below meth c A Q F hret0 H locs hP hS ls hl
  have F : Cx p s m args c cX5_on 1 wsX5_on RX5 D (tyL cI cJ) A := F
  have hx := F.1.1
  have hb := F.1.2.1
  have hown := F.1.2.2.2.1
  have hts := F.1.2.2.2.2
  have iX5 : ∀ w ∈ wsX50, w ∈ wsX5_on := fun w h => (List.mem_cons_of_mem _ (List.mem_append_right _ h))
  have hret : ∀ (pc : Nat) (H : Heap) (locs : List Loc) (ls : Array Slot) (r' : Int32) (m_z_s : Nat → Int32) (m_z_refused : Nat → Int32), some (r', m_z_s, m_z_refused) = some (r, n_z_s, n_z_refused) → narrow .int (.int r') = .int r' → decode cX5_on pc = .ok (.ireturn, 1) → WD D A [(a_z, .inr (5, [.ref a_z_s, .ref a_z_m, .ref a_z_image, .ref a_z_was, .int z_hasImage, .ref a_z_letters, .ref a_z_row, .ref a_z_refused, .int z_letterMany, .int z_rowMany, .int z_reading, .ref a_z_numbers, .int z_seed])), (a_z_s, .inl (cI, 45, .inl m_z_s)), (a_z_image, .inl (cI, 45, .inl z_image)), (a_z_refused, .inl (cI, 7, .inl m_z_refused))] H → va_S A s.heap H locs → W p l e rmX5_on s m args below meth c H locs 0 0 Q (F0 m pc ls [.int r']) := by
    intro pc H locs ls r' m_z_s m_z_refused h hn hd hP hS
    cases h
    exact hret0 pc H locs ls hn hd hP hS
  have hl : lv_has ls 1 [(0, .ref a_z)] := hl
  have h := hf
  unfold fX5_on at h
  refine lv_aload_n hx hb dX5_on_0 rfl (lv_at hl 0 rfl) ?_
  refine gt_X5_213 F iX5 (List.mem_cons_of_mem _ (List.mem_append_left _ (List.mem_of_getElem? (i := 0) rfl))) hP 0 rfl dX5_on_1 ?_
  refine lv_if_ne (tgt := 14) hx hb dX5_on_4 (by decide) (fun hc7 => ?_) (fun hc7 => ?_)
  · have h := it_n hc7 h
    refine lv_aload_n hx hb dX5_on_14 rfl (lv_at hl 0 rfl) ?_
    refine gt_X5_16 F iX5 (List.mem_cons_of_mem _ (List.mem_append_left _ (List.mem_of_getElem? (i := 1) rfl))) hP 0 rfl dX5_on_15 ?_
    refine lv_aload_n hx hb dX5_on_18 rfl (lv_at hl 0 rfl) ?_
    refine gt_X5_9 F iX5 (List.mem_cons_of_mem _ (List.mem_append_left _ (List.mem_of_getElem? (i := 2) rfl))) hP 0 rfl dX5_on_19 ?_
    obtain ⟨z_s_8, hk9, h⟩ := bd1_e h
    refine cS_v (rest := []) F (kX5_copies l D cI cJ H.size g a_z_image a_z_s z_image z_s z_s_8 hk9) (va_cwS 2 hts gX5_on_X5_copies rfl rfl rfl eSX5_copies ⟨Nat.le_of_ble_eq_true rfl, Nat.le_of_ble_eq_true rfl⟩) [2, 1] hP hS (by decide) rfl rfl rfl hl.1 (Nat.le_of_ble_eq_true rfl) ⟨Nat.le_refl _, Nat.le_refl _⟩ rfl dX5_on_22 (fun H locs hP hS => ?_)
    have hP : WD D A [(a_z, .inr (5, [.ref a_z_s, .ref a_z_m, .ref a_z_image, .ref a_z_was, .int z_hasImage, .ref a_z_letters, .ref a_z_row, .ref a_z_refused, .int z_letterMany, .int z_rowMany, .int z_reading, .ref a_z_numbers, .int z_seed])), (a_z_s, .inl (cI, 45, .inl z_s_8)), (a_z_image, .inl (cI, 45, .inl z_image)), (a_z_refused, .inl (cI, 7, .inl z_refused))] H := hP
    refine lv_aload_n hx hb dX5_on_25 rfl (lv_at hl 0 rfl) ?_
    refine gt_X5_9 F iX5 (List.mem_cons_of_mem _ (List.mem_append_left _ (List.mem_of_getElem? (i := 2) rfl))) hP 0 rfl dX5_on_26 ?_
    refine lv_iconst (v := 2) hx hb dX5_on_29 (by decide) ?_
    refine r_ia F hP 1 rfl (j := 2) rfl (by decide) dX5_on_30 ?_
    exact hret 31 H locs ls (z_s_8 2) z_s_8 z_refused h rfl dX5_on_31 hP hS
  · have h := it_p hc7 h
    refine lv_aload_n hx hb dX5_on_7 rfl (lv_at hl 0 rfl) ?_
    refine lv_bipush (v := (-3)) hx hb dX5_on_8 (by decide) ?_
    obtain ⟨r10, z_refused_11, hk12, h⟩ := bd2_e h
    refine cV_i (rest := []) F (kX5_no l D cI cJ H.size g a_z a_z_s a_z_m a_z_image a_z_was a_z_letters a_z_row a_z_refused a_z_numbers z_hasImage z_letterMany z_rowMany z_reading z_seed z_refused (-3) r10 z_refused_11 hk12) (cwV 1 hts gX5_on_X5_no rfl rfl rfl eVX5_no ⟨Nat.le_of_ble_eq_true rfl, Nat.le_of_ble_eq_true rfl⟩) [0, 3] hP hS (by decide) rfl rfl 0 rfl rfl rfl hl.1 (Nat.le_of_ble_eq_true rfl) ⟨Nat.le_refl _, Nat.le_refl _⟩ rfl dX5_on_10 (fun H locs hP hS => ?_)
    have hP : WD D A [(a_z, .inr (5, [.ref a_z_s, .ref a_z_m, .ref a_z_image, .ref a_z_was, .int z_hasImage, .ref a_z_letters, .ref a_z_row, .ref a_z_refused, .int z_letterMany, .int z_rowMany, .int z_reading, .ref a_z_numbers, .int z_seed])), (a_z_s, .inl (cI, 45, .inl z_s)), (a_z_image, .inl (cI, 45, .inl z_image)), (a_z_refused, .inl (cI, 7, .inl z_refused_11))] H := hP
    exact hret 13 H locs ls r10 z_s z_refused_11 h rfl dX5_on_13 hP hS
theorem eSX5_count : yX5_count.cls ≠ "java/lang/invoke/MethodHandle" ∧ yX5_count.cls ≠ "java/lang/invoke/VarHandle" ∧ (parseMethodDescriptor yX5_count.desc).map (fun d => d.parameters.length) = some 1 := by decide +kernel
theorem eVX5_count : yX5_count.cls = RX5 ∧ yX5_count.cls ≠ "java/lang/invoke/MethodHandle" ∧ yX5_count.cls ≠ "java/lang/invoke/VarHandle" ∧ (parseMethodDescriptor yX5_count.desc).map (fun d => d.parameters.length) = some 1 := ⟨rfl, eSX5_count⟩
abbrev rmX5_count : Room := { frames := 3, cells := 0, slots := 0, locals := 65 }
def fX5_count (g : Nat) (p0 : Int32) (z_letterMany : Int32) (z_rowMany : Int32) (z_s : Nat → Int32) (z_refused : Nat → Int32) : Option (Int32) := bd1 (fX5_isIn g p0 11 16) fun r21 => (if r21 = 0 then (if p0 = 0 then (gd (inB p0 45) (some (z_s p0.toNatClampNeg))) else (if p0 = 1 then (gd (inB p0 45) (some (z_s p0.toNatClampNeg))) else (if p0 = 2 then (gd (inB p0 45) (some (z_s p0.toNatClampNeg))) else (if p0 = 3 then (gd (inB p0 45) (some (z_s p0.toNatClampNeg))) else (if p0 = 4 then (bd1 (fX5_aboardIn g z_s) fun r34 => (some r34)) else (if p0 = 5 then (bd1 (fX5_seaAll g 0 z_s) fun r32 => (some r32)) else (if p0 = 6 then (some z_rowMany) else (if p0 = 7 then (some z_letterMany) else (some (-9)))))))))) else (gd (inB (p0 - 10) 7) (some (z_refused (p0 - 10).toNatClampNeg))))
set_option maxHeartbeats 4000000 in
set_option maxRecDepth 100000 in
theorem kX5_count (l : Launch) (D : va_G) (cI cJ : ClassId) (sz g : Nat) (a_z a_z_s a_z_m a_z_image a_z_was a_z_letters a_z_row a_z_refused a_z_numbers : Nat) (z_hasImage : Int32) (z_letterMany : Int32) (z_rowMany : Int32) (z_reading : Int32) (z_seed : Int32) (z_s : Nat → Int32) (z_refused : Nat → Int32) (p0 : Int32) (r : Int32) (hf : fX5_count g p0 z_letterMany z_rowMany z_s z_refused = some r) : Met l yX5_count wsX5_count rmX5_count (va_Pc [.ref a_z, .int p0] (sPc D (tyL cI cJ) [(a_z, .inr (5, [.ref a_z_s, .ref a_z_m, .ref a_z_image, .ref a_z_was, .int z_hasImage, .ref a_z_letters, .ref a_z_row, .ref a_z_refused, .int z_letterMany, .int z_rowMany, .int z_reading, .ref a_z_numbers, .int z_seed])), (a_z_s, .inl (cI, 45, .inl z_s)), (a_z_refused, .inl (cI, 7, .inl z_refused))] sz)) (qI D (tyL cI cJ) [(a_z, .inr (5, [.ref a_z_s, .ref a_z_m, .ref a_z_image, .ref a_z_was, .int z_hasImage, .ref a_z_letters, .ref a_z_row, .ref a_z_refused, .int z_letterMany, .int z_rowMany, .int z_reading, .ref a_z_numbers, .int z_seed])), (a_z_s, .inl (cI, 45, .inl z_s)), (a_z_refused, .inl (cI, 7, .inl z_refused))] sz [(a_z, .inr (5, [.ref a_z_s, .ref a_z_m, .ref a_z_image, .ref a_z_was, .int z_hasImage, .ref a_z_letters, .ref a_z_row, .ref a_z_refused, .int z_letterMany, .int z_rowMany, .int z_reading, .ref a_z_numbers, .int z_seed])), (a_z_s, .inl (cI, 45, .inl z_s)), (a_z_refused, .inl (cI, 7, .inl z_refused))] r) 0 0 (va_A [(a_z, .inr (5, [.ref a_z_s, .ref a_z_m, .ref a_z_image, .ref a_z_was, .int z_hasImage, .ref a_z_letters, .ref a_z_row, .ref a_z_refused, .int z_letterMany, .int z_rowMany, .int z_reading, .ref a_z_numbers, .int z_seed])), (a_z_s, .inl (cI, 45, .inl z_s)), (a_z_refused, .inl (cI, 7, .inl z_refused))] sz) := by
  refine st_i (cc := cX5_count) (maxL := 2) (by decide) rfl (Nat.le_of_ble_eq_true rfl) ?_
  intro p e s m args below meth c A Q F hret0 H locs hP hS ls hl
  have F : Cx p s m args c cX5_count 2 wsX5_count RX5 D (tyL cI cJ) A := F
  have hx := F.1.1
  have hb := F.1.2.1
  have hown := F.1.2.2.2.1
  have hts := F.1.2.2.2.2
  have iX5 : ∀ w ∈ wsX50, w ∈ wsX5_count := fun w h => (List.mem_cons_of_mem _ (List.mem_append_right _ h))
  have hret : ∀ (pc : Nat) (H : Heap) (locs : List Loc) (ls : Array Slot) (r' : Int32), some r' = some r → narrow .int (.int r') = .int r' → decode cX5_count pc = .ok (.ireturn, 1) → WD D A [(a_z, .inr (5, [.ref a_z_s, .ref a_z_m, .ref a_z_image, .ref a_z_was, .int z_hasImage, .ref a_z_letters, .ref a_z_row, .ref a_z_refused, .int z_letterMany, .int z_rowMany, .int z_reading, .ref a_z_numbers, .int z_seed])), (a_z_s, .inl (cI, 45, .inl z_s)), (a_z_refused, .inl (cI, 7, .inl z_refused))] H → va_S A s.heap H locs → W p l e rmX5_count s m args below meth c H locs 0 0 Q (F0 m pc ls [.int r']) := by
    intro pc H locs ls r' h hn hd hP hS
    cases h
    exact hret0 pc H locs ls hn hd hP hS
  have hl : lv_has ls 2 [(0, .ref a_z), (1, .int p0)] := hl
  have h := hf
  unfold fX5_count at h
  refine lv_iload_n hx hb dX5_count_0 rfl (lv_at hl 1 rfl) ?_
  refine lv_bipush (v := 11) hx hb dX5_count_1 (by decide) ?_
  refine lv_bipush (v := 16) hx hb dX5_count_3 (by decide) ?_
  obtain ⟨r21, hk22, h⟩ := bd1_e h
  refine cS_i (rest := []) F (kX5_isIn l D cI cJ H.size g p0 11 16 r21 hk22) (va_cwS 3 hts gX5_count_X5_isIn rfl rfl rfl eSX5_isIn ⟨Nat.le_of_ble_eq_true rfl, Nat.le_of_ble_eq_true rfl⟩) [] hP hS (by decide) rfl rfl rfl hl.1 (Nat.le_of_ble_eq_true rfl) ⟨Nat.le_refl _, Nat.le_refl _⟩ rfl dX5_count_5 (fun H locs hP hS => ?_)
  have hP : WD D A [(a_z, .inr (5, [.ref a_z_s, .ref a_z_m, .ref a_z_image, .ref a_z_was, .int z_hasImage, .ref a_z_letters, .ref a_z_row, .ref a_z_refused, .int z_letterMany, .int z_rowMany, .int z_reading, .ref a_z_numbers, .int z_seed])), (a_z_s, .inl (cI, 45, .inl z_s)), (a_z_refused, .inl (cI, 7, .inl z_refused))] H := hP
  refine lv_if_eq (tgt := 21) hx hb dX5_count_8 (by decide) (fun hc23 => ?_) (fun hc23 => ?_)
  · have h := it_p hc23 h
    refine lv_iload_n hx hb dX5_count_21 rfl (lv_at hl 1 rfl) ?_
    by_cases hc24 : p0 = 0
    · have h := it_p hc24 h
      refine lv_tableIn (off := 46) (tgt := 68) hx hb dX5_count_22 (by rw [hc24]; decide) (by rw [hc24]; decide) (by rw [hc24]; rfl) (by decide) ?_
      refine lv_aload_n hx hb dX5_count_68 rfl (lv_at hl 0 rfl) ?_
      refine gt_X5_9 F iX5 (List.mem_cons_of_mem _ (List.mem_append_left _ (List.mem_of_getElem? (i := 1) rfl))) hP 0 rfl dX5_count_69 ?_
      refine lv_iload_n hx hb dX5_count_72 rfl (lv_at hl 1 rfl) ?_
      obtain ⟨hg39, h⟩ := gd_e h
      refine r_ia F hP 1 rfl rfl hg39 dX5_count_73 ?_
      exact hret 74 H locs ls (z_s p0.toNatClampNeg) h rfl dX5_count_74 hP hS
    · have h := it_n hc24 h
      by_cases hc25 : p0 = 1
      · have h := it_p hc25 h
        refine lv_tableIn (off := 46) (tgt := 68) hx hb dX5_count_22 (by rw [hc25]; decide) (by rw [hc25]; decide) (by rw [hc25]; rfl) (by decide) ?_
        refine lv_aload_n hx hb dX5_count_68 rfl (lv_at hl 0 rfl) ?_
        refine gt_X5_9 F iX5 (List.mem_cons_of_mem _ (List.mem_append_left _ (List.mem_of_getElem? (i := 1) rfl))) hP 0 rfl dX5_count_69 ?_
        refine lv_iload_n hx hb dX5_count_72 rfl (lv_at hl 1 rfl) ?_
        obtain ⟨hg38, h⟩ := gd_e h
        refine r_ia F hP 1 rfl rfl hg38 dX5_count_73 ?_
        exact hret 74 H locs ls (z_s p0.toNatClampNeg) h rfl dX5_count_74 hP hS
      · have h := it_n hc25 h
        by_cases hc26 : p0 = 2
        · have h := it_p hc26 h
          refine lv_tableIn (off := 46) (tgt := 68) hx hb dX5_count_22 (by rw [hc26]; decide) (by rw [hc26]; decide) (by rw [hc26]; rfl) (by decide) ?_
          refine lv_aload_n hx hb dX5_count_68 rfl (lv_at hl 0 rfl) ?_
          refine gt_X5_9 F iX5 (List.mem_cons_of_mem _ (List.mem_append_left _ (List.mem_of_getElem? (i := 1) rfl))) hP 0 rfl dX5_count_69 ?_
          refine lv_iload_n hx hb dX5_count_72 rfl (lv_at hl 1 rfl) ?_
          obtain ⟨hg37, h⟩ := gd_e h
          refine r_ia F hP 1 rfl rfl hg37 dX5_count_73 ?_
          exact hret 74 H locs ls (z_s p0.toNatClampNeg) h rfl dX5_count_74 hP hS
        · have h := it_n hc26 h
          by_cases hc27 : p0 = 3
          · have h := it_p hc27 h
            refine lv_tableIn (off := 46) (tgt := 68) hx hb dX5_count_22 (by rw [hc27]; decide) (by rw [hc27]; decide) (by rw [hc27]; rfl) (by decide) ?_
            refine lv_aload_n hx hb dX5_count_68 rfl (lv_at hl 0 rfl) ?_
            refine gt_X5_9 F iX5 (List.mem_cons_of_mem _ (List.mem_append_left _ (List.mem_of_getElem? (i := 1) rfl))) hP 0 rfl dX5_count_69 ?_
            refine lv_iload_n hx hb dX5_count_72 rfl (lv_at hl 1 rfl) ?_
            obtain ⟨hg36, h⟩ := gd_e h
            refine r_ia F hP 1 rfl rfl hg36 dX5_count_73 ?_
            exact hret 74 H locs ls (z_s p0.toNatClampNeg) h rfl dX5_count_74 hP hS
          · have h := it_n hc27 h
            by_cases hc28 : p0 = 4
            · have h := it_p hc28 h
              refine lv_tableIn (off := 53) (tgt := 75) hx hb dX5_count_22 (by rw [hc28]; decide) (by rw [hc28]; decide) (by rw [hc28]; rfl) (by decide) ?_
              refine lv_aload_n hx hb dX5_count_75 rfl (lv_at hl 0 rfl) ?_
              refine gt_X5_9 F iX5 (List.mem_cons_of_mem _ (List.mem_append_left _ (List.mem_of_getElem? (i := 1) rfl))) hP 0 rfl dX5_count_76 ?_
              obtain ⟨r34, hk35, h⟩ := bd1_e h
              refine cS_i (rest := []) F (kX5_aboardIn l D cI cJ H.size g a_z_s z_s r34 hk35) (va_cwS 1 hts gX5_count_X5_aboardIn rfl rfl rfl eSX5_aboardIn ⟨Nat.le_of_ble_eq_true rfl, Nat.le_of_ble_eq_true rfl⟩) [1] hP hS (by decide) rfl rfl rfl hl.1 (Nat.le_of_ble_eq_true rfl) ⟨Nat.le_refl _, Nat.le_refl _⟩ rfl dX5_count_79 (fun H locs hP hS => ?_)
              have hP : WD D A [(a_z, .inr (5, [.ref a_z_s, .ref a_z_m, .ref a_z_image, .ref a_z_was, .int z_hasImage, .ref a_z_letters, .ref a_z_row, .ref a_z_refused, .int z_letterMany, .int z_rowMany, .int z_reading, .ref a_z_numbers, .int z_seed])), (a_z_s, .inl (cI, 45, .inl z_s)), (a_z_refused, .inl (cI, 7, .inl z_refused))] H := hP
              exact hret 82 H locs ls r34 h rfl dX5_count_82 hP hS
            · have h := it_n hc28 h
              by_cases hc29 : p0 = 5
              · have h := it_p hc29 h
                refine lv_tableIn (off := 61) (tgt := 83) hx hb dX5_count_22 (by rw [hc29]; decide) (by rw [hc29]; decide) (by rw [hc29]; rfl) (by decide) ?_
                refine lv_aload_n hx hb dX5_count_83 rfl (lv_at hl 0 rfl) ?_
                refine lv_iconst (v := 0) hx hb dX5_count_84 (by decide) ?_
                obtain ⟨r32, hk33, h⟩ := bd1_e h
                refine cV_i (rest := []) F (kX5_seaAll l D cI cJ H.size g a_z a_z_s a_z_m a_z_image a_z_was a_z_letters a_z_row a_z_refused a_z_numbers z_hasImage z_letterMany z_rowMany z_reading z_seed z_s 0 r32 hk33) (cwV 1 hts gX5_count_X5_seaAll rfl rfl rfl eVX5_seaAll ⟨Nat.le_of_ble_eq_true rfl, Nat.le_of_ble_eq_true rfl⟩) [0, 1] hP hS (by decide) rfl rfl 0 rfl rfl rfl hl.1 (Nat.le_of_ble_eq_true rfl) ⟨Nat.le_refl _, Nat.le_refl _⟩ rfl dX5_count_85 (fun H locs hP hS => ?_)
                have hP : WD D A [(a_z, .inr (5, [.ref a_z_s, .ref a_z_m, .ref a_z_image, .ref a_z_was, .int z_hasImage, .ref a_z_letters, .ref a_z_row, .ref a_z_refused, .int z_letterMany, .int z_rowMany, .int z_reading, .ref a_z_numbers, .int z_seed])), (a_z_s, .inl (cI, 45, .inl z_s)), (a_z_refused, .inl (cI, 7, .inl z_refused))] H := hP
                exact hret 88 H locs ls r32 h rfl dX5_count_88 hP hS
              · have h := it_n hc29 h
                by_cases hc30 : p0 = 6
                · have h := it_p hc30 h
                  refine lv_tableIn (off := 67) (tgt := 89) hx hb dX5_count_22 (by rw [hc30]; decide) (by rw [hc30]; decide) (by rw [hc30]; rfl) (by decide) ?_
                  refine lv_aload_n hx hb dX5_count_89 rfl (lv_at hl 0 rfl) ?_
                  refine gt_X5_201 F iX5 (List.mem_cons_of_mem _ (List.mem_append_left _ (List.mem_of_getElem? (i := 2) rfl))) hP 0 rfl dX5_count_90 ?_
                  exact hret 93 H locs ls z_rowMany h rfl dX5_count_93 hP hS
                · have h := it_n hc30 h
                  by_cases hc31 : p0 = 7
                  · have h := it_p hc31 h
                    refine lv_tableIn (off := 72) (tgt := 94) hx hb dX5_count_22 (by rw [hc31]; decide) (by rw [hc31]; decide) (by rw [hc31]; rfl) (by decide) ?_
                    refine lv_aload_n hx hb dX5_count_94 rfl (lv_at hl 0 rfl) ?_
                    refine gt_X5_89 F iX5 (List.mem_cons_of_mem _ (List.mem_append_left _ (List.mem_of_getElem? (i := 3) rfl))) hP 0 rfl dX5_count_95 ?_
                    exact hret 98 H locs ls z_letterMany h rfl dX5_count_98 hP hS
                  · have h := it_n hc31 h
                    refine lv_tabD (tgt := 99) [0, 1, 2, 3, 4, 5, 6, 7] hx hb dX5_count_22 (by decide) (by decide) (List.forall_mem_cons.mpr ⟨lv_neT hc24 (by decide), List.forall_mem_cons.mpr ⟨lv_neT hc25 (by decide), List.forall_mem_cons.mpr ⟨lv_neT hc26 (by decide), List.forall_mem_cons.mpr ⟨lv_neT hc27 (by decide), List.forall_mem_cons.mpr ⟨lv_neT hc28 (by decide), List.forall_mem_cons.mpr ⟨lv_neT hc29 (by decide), List.forall_mem_cons.mpr ⟨lv_neT hc30 (by decide), List.forall_mem_cons.mpr ⟨lv_neT hc31 (by decide), fun _ h9 => absurd h9 List.not_mem_nil⟩⟩⟩⟩⟩⟩⟩⟩) (by decide) ?_
                    refine lv_bipush (v := (-9)) hx hb dX5_count_99 (by decide) ?_
                    exact hret 101 H locs ls (-9) h rfl dX5_count_101 hP hS
  · have h := it_n hc23 h
    refine lv_aload_n hx hb dX5_count_11 rfl (lv_at hl 0 rfl) ?_
    refine gt_X5_28 F iX5 (List.mem_cons_of_mem _ (List.mem_append_left _ (List.mem_of_getElem? (i := 0) rfl))) hP 0 rfl dX5_count_12 ?_
    refine lv_iload_n hx hb dX5_count_15 rfl (lv_at hl 1 rfl) ?_
    refine lv_bipush (v := 10) hx hb dX5_count_16 (by decide) ?_
    refine lv_isub hx hb dX5_count_18 ?_
    obtain ⟨hg40, h⟩ := gd_e h
    refine r_ia F hP 2 rfl rfl hg40 dX5_count_19 ?_
    exact hret 20 H locs ls (z_refused (p0 - 10).toNatClampNeg) h rfl dX5_count_20 hP hS
