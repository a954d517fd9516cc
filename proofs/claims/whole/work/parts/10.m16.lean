theorem eSX5_turn : yX5_turn.cls ≠ "java/lang/invoke/MethodHandle" ∧ yX5_turn.cls ≠ "java/lang/invoke/VarHandle" ∧ (parseMethodDescriptor yX5_turn.desc).map (fun d => d.parameters.length) = some 3 := by decide +kernel
theorem eVX5_turn : yX5_turn.cls = RX5 ∧ yX5_turn.cls ≠ "java/lang/invoke/MethodHandle" ∧ yX5_turn.cls ≠ "java/lang/invoke/VarHandle" ∧ (parseMethodDescriptor yX5_turn.desc).map (fun d => d.parameters.length) = some 3 := ⟨rfl, eSX5_turn⟩
abbrev rmX5_turn : Room := { frames := 2, cells := 0, slots := 0, locals := 43 }
def fX5_turn (g : Nat) (p0 : Int32) (p1 : Int32) (p2 : Int32) (z_s : Nat → Int32) (z_refused : Nat → Int32) : Option (Int32 × (Nat → Int32) × (Nat → Int32)) := bd1 (fX5_isHand g p0 z_s) fun r57 => (if r57 = 0 then (if ((-1) : Int32) = 0 then (bd1 (fX5_of g p0 0) fun r98 => (gd (inB r98 45) (bd1 (fX5_of g p0 1) fun r101 => (gd (inB r101 45) (bd1 (fX5_of g p0 0) fun r104 => (gd (inB r104 45) (bd1 (fX5_of g p0 1) fun r107 => (gd (inB r107 45) (some ((10 * (z_s r98.toNatClampNeg)) + (z_s r101.toNatClampNeg), upd (upd z_s r104.toNatClampNeg p1) r107.toNatClampNeg p2, z_refused)))))))))) else (bd2 (fX5_no g (-1) z_refused) fun r110 z_refused_111 => (some (r110, z_s, z_refused_111)))) else (bd1 (fX5_isIn g p1 0 5) fun r60 => (if r60 = 0 then (if ((-2) : Int32) = 0 then (bd1 (fX5_of g p0 0) fun r82 => (gd (inB r82 45) (bd1 (fX5_of g p0 1) fun r85 => (gd (inB r85 45) (bd1 (fX5_of g p0 0) fun r88 => (gd (inB r88 45) (bd1 (fX5_of g p0 1) fun r91 => (gd (inB r91 45) (some ((10 * (z_s r82.toNatClampNeg)) + (z_s r85.toNatClampNeg), upd (upd z_s r88.toNatClampNeg p1) r91.toNatClampNeg p2, z_refused)))))))))) else (bd2 (fX5_no g (-2) z_refused) fun r94 z_refused_95 => (some (r94, z_s, z_refused_95)))) else (bd1 (fX5_wrongBy g p2 0 9) fun r63 => (if r63 = 0 then (bd1 (fX5_of g p0 0) fun r66 => (gd (inB r66 45) (bd1 (fX5_of g p0 1) fun r69 => (gd (inB r69 45) (bd1 (fX5_of g p0 0) fun r72 => (gd (inB r72 45) (bd1 (fX5_of g p0 1) fun r75 => (gd (inB r75 45) (some ((10 * (z_s r66.toNatClampNeg)) + (z_s r69.toNatClampNeg), upd (upd z_s r72.toNatClampNeg p1) r75.toNatClampNeg p2, z_refused)))))))))) else (bd2 (fX5_no g r63 z_refused) fun r78 z_refused_79 => (some (r78, z_s, z_refused_79))))))))
set_option maxHeartbeats 4000000 in
set_option maxRecDepth 100000 in
theorem kX5_turn (l : Launch) (D : va_G) (cI cJ : ClassId) (sz g : Nat) (a_z a_z_s a_z_m a_z_image a_z_was a_z_letters a_z_row a_z_refused a_z_numbers : Nat) (z_hasImage : Int32) (z_letterMany : Int32) (z_rowMany : Int32) (z_reading : Int32) (z_seed : Int32) (z_s : Nat → Int32) (z_refused : Nat → Int32) (p0 : Int32) (p1 : Int32) (p2 : Int32) (r : Int32) (n_z_s : Nat → Int32) (n_z_refused : Nat → Int32) (hf : fX5_turn g p0 p1 p2 z_s z_refused = some (r, n_z_s, n_z_refused)) : Met l yX5_turn wsX5_turn rmX5_turn (va_Pc [.ref a_z, .int p0, .int p1, .int p2] (sPc D (tyL cI cJ) [(a_z, .inr (5, [.ref a_z_s, .ref a_z_m, .ref a_z_image, .ref a_z_was, .int z_hasImage, .ref a_z_letters, .ref a_z_row, .ref a_z_refused, .int z_letterMany, .int z_rowMany, .int z_reading, .ref a_z_numbers, .int z_seed])), (a_z_s, .inl (cI, 45, .inl z_s)), (a_z_refused, .inl (cI, 7, .inl z_refused))] sz)) (qI D (tyL cI cJ) [(a_z, .inr (5, [.ref a_z_s, .ref a_z_m, .ref a_z_image, .ref a_z_was, .int z_hasImage, .ref a_z_letters, .ref a_z_row, .ref a_z_refused, .int z_letterMany, .int z_rowMany, .int z_reading, .ref a_z_numbers, .int z_seed])), (a_z_s, .inl (cI, 45, .inl z_s)), (a_z_refused, .inl (cI, 7, .inl z_refused))] sz [(a_z, .inr (5, [.ref a_z_s, .ref a_z_m, .ref a_z_image, .ref a_z_was, .int z_hasImage, .ref a_z_letters, .ref a_z_row, .ref a_z_refused, .int z_letterMany, .int z_rowMany, .int z_reading, .ref a_z_numbers, .int z_seed])), (a_z_s, .inl (cI, 45, .inl n_z_s)), (a_z_refused, .inl (cI, 7, .inl n_z_refused))] r) 0 0 (va_A [(a_z, .inr (5, [.ref a_z_s, .ref a_z_m, .ref a_z_image, .ref a_z_was, .int z_hasImage, .ref a_z_letters, .ref a_z_row, .ref a_z_refused, .int z_letterMany, .int z_rowMany, .int z_reading, .ref a_z_numbers, .int z_seed])), (a_z_s, .inl (cI, 45, .inl z_s)), (a_z_refused, .inl (cI, 7, .inl z_refused))] sz) := by
  refine st_i (cc := cX5_turn) (maxL := 6) (by decide) rfl (Nat.le_of_ble_eq_true rfl) ?_
  intro p e s m args below meth c A Q F hret0 H locs hP hS ls hl
  have F : Cx p s m args c cX5_turn 6 wsX5_turn RX5 D (tyL cI cJ) A := F
  have hx := F.1.1
  have hb := F.1.2.1
  have hown := F.1.2.2.2.1
  have hts := F.1.2.2.2.2
  have iX5 : ∀ w ∈ wsX50, w ∈ wsX5_turn := fun w h => (List.mem_cons_of_mem _ (List.mem_append_right _ h))
  have hret : ∀ (pc : Nat) (H : Heap) (locs : List Loc) (ls : Array Slot) (r' : Int32) (m_z_s : Nat → Int32) (m_z_refused : Nat → Int32), some (r', m_z_s, m_z_refused) = some (r, n_z_s, n_z_refused) → narrow .int (.int r') = .int r' → decode cX5_turn pc = .ok (.ireturn, 1) → WD D A [(a_z, .inr (5, [.ref a_z_s, .ref a_z_m, .ref a_z_image, .ref a_z_was, .int z_hasImage, .ref a_z_letters, .ref a_z_row, .ref a_z_refused, .int z_letterMany, .int z_rowMany, .int z_reading, .ref a_z_numbers, .int z_seed])), (a_z_s, .inl (cI, 45, .inl m_z_s)), (a_z_refused, .inl (cI, 7, .inl m_z_refused))] H → va_S A s.heap H locs → W p l e rmX5_turn s m args below meth c H locs 0 0 Q (F0 m pc ls [.int r']) := by
    intro pc H locs ls r' m_z_s m_z_refused h hn hd hP hS
    cases h
    exact hret0 pc H locs ls hn hd hP hS
  have hl : lv_has ls 6 [(0, .ref a_z), (1, .int p0), (2, .int p1), (3, .int p2)] := hl
  have h := hf
  unfold fX5_turn at h
  refine lv_aload_n hx hb dX5_turn_0 rfl (lv_at hl 0 rfl) ?_
  refine lv_iload_n hx hb dX5_turn_1 rfl (lv_at hl 1 rfl) ?_
  obtain ⟨r57, hk58, h⟩ := bd1_e h
  refine cV_i (rest := []) F (kX5_isHand l D cI cJ H.size g a_z a_z_s a_z_m a_z_image a_z_was a_z_letters a_z_row a_z_refused a_z_numbers z_hasImage z_letterMany z_rowMany z_reading z_seed z_s p0 r57 hk58) (cwV 1 hts gX5_turn_X5_isHand rfl rfl rfl eVX5_isHand ⟨Nat.le_of_ble_eq_true rfl, Nat.le_of_ble_eq_true rfl⟩) [0, 1] hP hS (by decide) rfl rfl 0 rfl rfl rfl hl.1 (Nat.le_of_ble_eq_true rfl) ⟨Nat.le_refl _, Nat.le_refl _⟩ rfl dX5_turn_2 (fun H locs hP hS => ?_)
  have hP : WD D A [(a_z, .inr (5, [.ref a_z_s, .ref a_z_m, .ref a_z_image, .ref a_z_was, .int z_hasImage, .ref a_z_letters, .ref a_z_row, .ref a_z_refused, .int z_letterMany, .int z_rowMany, .int z_reading, .ref a_z_numbers, .int z_seed])), (a_z_s, .inl (cI, 45, .inl z_s)), (a_z_refused, .inl (cI, 7, .inl z_refused))] H := hP
  refine lv_if_ne (tgt := 12) hx hb dX5_turn_5 (by decide) (fun hc59 => ?_) (fun hc59 => ?_)
  · have h := it_n hc59 h
    refine lv_iload_n hx hb dX5_turn_12 rfl (lv_at hl 2 rfl) ?_
    refine lv_iconst (v := 0) hx hb dX5_turn_13 (by decide) ?_
    refine lv_iconst (v := 5) hx hb dX5_turn_14 (by decide) ?_
    obtain ⟨r60, hk61, h⟩ := bd1_e h
    refine cS_i (rest := []) F (kX5_isIn l D cI cJ H.size g p1 0 5 r60 hk61) (va_cwS 3 hts gX5_turn_X5_isIn rfl rfl rfl eSX5_isIn ⟨Nat.le_of_ble_eq_true rfl, Nat.le_of_ble_eq_true rfl⟩) [] hP hS (by decide) rfl rfl rfl hl.1 (Nat.le_of_ble_eq_true rfl) ⟨Nat.le_refl _, Nat.le_refl _⟩ rfl dX5_turn_15 (fun H locs hP hS => ?_)
    have hP : WD D A [(a_z, .inr (5, [.ref a_z_s, .ref a_z_m, .ref a_z_image, .ref a_z_was, .int z_hasImage, .ref a_z_letters, .ref a_z_row, .ref a_z_refused, .int z_letterMany, .int z_rowMany, .int z_reading, .ref a_z_numbers, .int z_seed])), (a_z_s, .inl (cI, 45, .inl z_s)), (a_z_refused, .inl (cI, 7, .inl z_refused))] H := hP
    refine lv_if_ne (tgt := 26) hx hb dX5_turn_18 (by decide) (fun hc62 => ?_) (fun hc62 => ?_)
    · have h := it_n hc62 h
      refine lv_iload_n hx hb dX5_turn_26 rfl (lv_at hl 3 rfl) ?_
      refine lv_iconst (v := 0) hx hb dX5_turn_27 (by decide) ?_
      refine lv_bipush (v := 9) hx hb dX5_turn_28 (by decide) ?_
      obtain ⟨r63, hk64, h⟩ := bd1_e h
      refine cS_i (rest := []) F (kX5_wrongBy l D cI cJ H.size g p2 0 9 r63 hk64) (va_cwS 3 hts gX5_turn_X5_wrongBy rfl rfl rfl eSX5_wrongBy ⟨Nat.le_of_ble_eq_true rfl, Nat.le_of_ble_eq_true rfl⟩) [] hP hS (by decide) rfl rfl rfl hl.1 (Nat.le_of_ble_eq_true rfl) ⟨Nat.le_refl _, Nat.le_refl _⟩ rfl dX5_turn_30 (fun H locs hP hS => ?_)
      have hP : WD D A [(a_z, .inr (5, [.ref a_z_s, .ref a_z_m, .ref a_z_image, .ref a_z_was, .int z_hasImage, .ref a_z_letters, .ref a_z_row, .ref a_z_refused, .int z_letterMany, .int z_rowMany, .int z_reading, .ref a_z_numbers, .int z_seed])), (a_z_s, .inl (cI, 45, .inl z_s)), (a_z_refused, .inl (cI, 7, .inl z_refused))] H := hP
      refine lv_istore (lv' := [(4, .int r63), (0, .ref a_z), (1, .int p0), (2, .int p1), (3, .int p2)]) hx hb dX5_turn_33 hl (by decide) rfl (fun ls hl => ?_)
      refine lv_iload hx hb dX5_turn_35 (lv_at hl 0 rfl) ?_
      refine lv_if_eq (tgt := 47) hx hb dX5_turn_37 (by decide) (fun hc65 => ?_) (fun hc65 => ?_)
      · have h := it_p hc65 h
        refine lv_bipush (v := 10) hx hb dX5_turn_47 (by decide) ?_
        refine lv_aload_n hx hb dX5_turn_49 rfl (lv_at hl 1 rfl) ?_
        refine gt_X5_9 F iX5 (List.mem_cons_of_mem _ (List.mem_append_left _ (List.mem_of_getElem? (i := 0) rfl))) hP 0 rfl dX5_turn_50 ?_
        refine lv_iload_n hx hb dX5_turn_53 rfl (lv_at hl 2 rfl) ?_
        refine lv_iconst (v := 0) hx hb dX5_turn_54 (by decide) ?_
        obtain ⟨r66, hk67, h⟩ := bd1_e h
        refine cS_i (rest := [.ref a_z_s, .int 10]) F (kX5_of l D cI cJ H.size g p0 0 r66 hk67) (va_cwS 2 hts gX5_turn_X5_of rfl rfl rfl eSX5_of ⟨Nat.le_of_ble_eq_true rfl, Nat.le_of_ble_eq_true rfl⟩) [] hP hS (by decide) rfl rfl rfl hl.1 (Nat.le_of_ble_eq_true rfl) ⟨Nat.le_refl _, Nat.le_refl _⟩ rfl dX5_turn_55 (fun H locs hP hS => ?_)
        have hP : WD D A [(a_z, .inr (5, [.ref a_z_s, .ref a_z_m, .ref a_z_image, .ref a_z_was, .int z_hasImage, .ref a_z_letters, .ref a_z_row, .ref a_z_refused, .int z_letterMany, .int z_rowMany, .int z_reading, .ref a_z_numbers, .int z_seed])), (a_z_s, .inl (cI, 45, .inl z_s)), (a_z_refused, .inl (cI, 7, .inl z_refused))] H := hP
        obtain ⟨hg68, h⟩ := gd_e h
        refine r_ia F hP 1 rfl rfl hg68 dX5_turn_58 ?_
        refine lv_imul hx hb dX5_turn_59 ?_
        refine lv_aload_n hx hb dX5_turn_60 rfl (lv_at hl 1 rfl) ?_
        refine gt_X5_9 F iX5 (List.mem_cons_of_mem _ (List.mem_append_left _ (List.mem_of_getElem? (i := 0) rfl))) hP 0 rfl dX5_turn_61 ?_
        refine lv_iload_n hx hb dX5_turn_64 rfl (lv_at hl 2 rfl) ?_
        refine lv_iconst (v := 1) hx hb dX5_turn_65 (by decide) ?_
        obtain ⟨r69, hk70, h⟩ := bd1_e h
        refine cS_i (rest := [.ref a_z_s, .int (10 * (z_s r66.toNatClampNeg))]) F (kX5_of l D cI cJ H.size g p0 1 r69 hk70) (va_cwS 2 hts gX5_turn_X5_of rfl rfl rfl eSX5_of ⟨Nat.le_of_ble_eq_true rfl, Nat.le_of_ble_eq_true rfl⟩) [] hP hS (by decide) rfl rfl rfl hl.1 (Nat.le_of_ble_eq_true rfl) ⟨Nat.le_refl _, Nat.le_refl _⟩ rfl dX5_turn_66 (fun H locs hP hS => ?_)
        have hP : WD D A [(a_z, .inr (5, [.ref a_z_s, .ref a_z_m, .ref a_z_image, .ref a_z_was, .int z_hasImage, .ref a_z_letters, .ref a_z_row, .ref a_z_refused, .int z_letterMany, .int z_rowMany, .int z_reading, .ref a_z_numbers, .int z_seed])), (a_z_s, .inl (cI, 45, .inl z_s)), (a_z_refused, .inl (cI, 7, .inl z_refused))] H := hP
        obtain ⟨hg71, h⟩ := gd_e h
        refine r_ia F hP 1 rfl rfl hg71 dX5_turn_69 ?_
        refine lv_iadd hx hb dX5_turn_70 ?_
        refine lv_istore (lv' := [(5, .int ((10 * (z_s r66.toNatClampNeg)) + (z_s r69.toNatClampNeg))), (4, .int r63), (0, .ref a_z), (1, .int p0), (2, .int p1), (3, .int p2)]) hx hb dX5_turn_71 hl (by decide) rfl (fun ls hl => ?_)
        refine lv_aload_n hx hb dX5_turn_73 rfl (lv_at hl 2 rfl) ?_
        refine gt_X5_9 F iX5 (List.mem_cons_of_mem _ (List.mem_append_left _ (List.mem_of_getElem? (i := 0) rfl))) hP 0 rfl dX5_turn_74 ?_
        refine lv_iload_n hx hb dX5_turn_77 rfl (lv_at hl 3 rfl) ?_
        refine lv_iconst (v := 0) hx hb dX5_turn_78 (by decide) ?_
        obtain ⟨r72, hk73, h⟩ := bd1_e h
        refine cS_i (rest := [.ref a_z_s]) F (kX5_of l D cI cJ H.size g p0 0 r72 hk73) (va_cwS 2 hts gX5_turn_X5_of rfl rfl rfl eSX5_of ⟨Nat.le_of_ble_eq_true rfl, Nat.le_of_ble_eq_true rfl⟩) [] hP hS (by decide) rfl rfl rfl hl.1 (Nat.le_of_ble_eq_true rfl) ⟨Nat.le_refl _, Nat.le_refl _⟩ rfl dX5_turn_79 (fun H locs hP hS => ?_)
        have hP : WD D A [(a_z, .inr (5, [.ref a_z_s, .ref a_z_m, .ref a_z_image, .ref a_z_was, .int z_hasImage, .ref a_z_letters, .ref a_z_row, .ref a_z_refused, .int z_letterMany, .int z_rowMany, .int z_reading, .ref a_z_numbers, .int z_seed])), (a_z_s, .inl (cI, 45, .inl z_s)), (a_z_refused, .inl (cI, 7, .inl z_refused))] H := hP
        refine lv_iload_n hx hb dX5_turn_82 rfl (lv_at hl 4 rfl) ?_
        obtain ⟨hg74, h⟩ := gd_e h
        refine r_is F hP hS 1 rfl rfl hg74 dX5_turn_83 (fun H locs hP hS => ?_)
        have hP : WD D A [(a_z, .inr (5, [.ref a_z_s, .ref a_z_m, .ref a_z_image, .ref a_z_was, .int z_hasImage, .ref a_z_letters, .ref a_z_row, .ref a_z_refused, .int z_letterMany, .int z_rowMany, .int z_reading, .ref a_z_numbers, .int z_seed])), (a_z_s, .inl (cI, 45, .inl (upd z_s r72.toNatClampNeg p1))), (a_z_refused, .inl (cI, 7, .inl z_refused))] H := hP
        refine lv_aload_n hx hb dX5_turn_84 rfl (lv_at hl 2 rfl) ?_
        refine gt_X5_9 F iX5 (List.mem_cons_of_mem _ (List.mem_append_left _ (List.mem_of_getElem? (i := 0) rfl))) hP 0 rfl dX5_turn_85 ?_
        refine lv_iload_n hx hb dX5_turn_88 rfl (lv_at hl 3 rfl) ?_
        refine lv_iconst (v := 1) hx hb dX5_turn_89 (by decide) ?_
        obtain ⟨r75, hk76, h⟩ := bd1_e h
        refine cS_i (rest := [.ref a_z_s]) F (kX5_of l D cI cJ H.size g p0 1 r75 hk76) (va_cwS 2 hts gX5_turn_X5_of rfl rfl rfl eSX5_of ⟨Nat.le_of_ble_eq_true rfl, Nat.le_of_ble_eq_true rfl⟩) [] hP hS (by decide) rfl rfl rfl hl.1 (Nat.le_of_ble_eq_true rfl) ⟨Nat.le_refl _, Nat.le_refl _⟩ rfl dX5_turn_90 (fun H locs hP hS => ?_)
        have hP : WD D A [(a_z, .inr (5, [.ref a_z_s, .ref a_z_m, .ref a_z_image, .ref a_z_was, .int z_hasImage, .ref a_z_letters, .ref a_z_row, .ref a_z_refused, .int z_letterMany, .int z_rowMany, .int z_reading, .ref a_z_numbers, .int z_seed])), (a_z_s, .inl (cI, 45, .inl (upd z_s r72.toNatClampNeg p1))), (a_z_refused, .inl (cI, 7, .inl z_refused))] H := hP
        refine lv_iload_n hx hb dX5_turn_93 rfl (lv_at hl 5 rfl) ?_
        obtain ⟨hg77, h⟩ := gd_e h
        refine r_is F hP hS 1 rfl rfl hg77 dX5_turn_94 (fun H locs hP hS => ?_)
        have hP : WD D A [(a_z, .inr (5, [.ref a_z_s, .ref a_z_m, .ref a_z_image, .ref a_z_was, .int z_hasImage, .ref a_z_letters, .ref a_z_row, .ref a_z_refused, .int z_letterMany, .int z_rowMany, .int z_reading, .ref a_z_numbers, .int z_seed])), (a_z_s, .inl (cI, 45, .inl (upd (upd z_s r72.toNatClampNeg p1) r75.toNatClampNeg p2))), (a_z_refused, .inl (cI, 7, .inl z_refused))] H := hP
        refine lv_iload hx hb dX5_turn_95 (lv_at hl 0 rfl) ?_
        exact hret 97 H locs ls ((10 * (z_s r66.toNatClampNeg)) + (z_s r69.toNatClampNeg)) (upd (upd z_s r72.toNatClampNeg p1) r75.toNatClampNeg p2) z_refused h rfl dX5_turn_97 hP hS
      · have h := it_n hc65 h
        refine lv_aload_n hx hb dX5_turn_40 rfl (lv_at hl 1 rfl) ?_
        refine lv_iload hx hb dX5_turn_41 (lv_at hl 0 rfl) ?_
        obtain ⟨r78, z_refused_79, hk80, h⟩ := bd2_e h
        refine cV_i (rest := []) F (kX5_no l D cI cJ H.size g a_z a_z_s a_z_m a_z_image a_z_was a_z_letters a_z_row a_z_refused a_z_numbers z_hasImage z_letterMany z_rowMany z_reading z_seed z_refused r63 r78 z_refused_79 hk80) (cwV 1 hts gX5_turn_X5_no rfl rfl rfl eVX5_no ⟨Nat.le_of_ble_eq_true rfl, Nat.le_of_ble_eq_true rfl⟩) [0, 2] hP hS (by decide) rfl rfl 0 rfl rfl rfl hl.1 (Nat.le_of_ble_eq_true rfl) ⟨Nat.le_refl _, Nat.le_refl _⟩ rfl dX5_turn_43 (fun H locs hP hS => ?_)
        have hP : WD D A [(a_z, .inr (5, [.ref a_z_s, .ref a_z_m, .ref a_z_image, .ref a_z_was, .int z_hasImage, .ref a_z_letters, .ref a_z_row, .ref a_z_refused, .int z_letterMany, .int z_rowMany, .int z_reading, .ref a_z_numbers, .int z_seed])), (a_z_s, .inl (cI, 45, .inl z_s)), (a_z_refused, .inl (cI, 7, .inl z_refused_79))] H := hP
        exact hret 46 H locs ls r78 z_s z_refused_79 h rfl dX5_turn_46 hP hS
    · have h := it_p hc62 h
      refine lv_bipush (v := (-2)) hx hb dX5_turn_21 (by decide) ?_
      refine lv_goto (tgt := 33) hx hb dX5_turn_23 (by decide) ?_
      refine lv_istore (lv' := [(4, .int (-2)), (0, .ref a_z), (1, .int p0), (2, .int p1), (3, .int p2)]) hx hb dX5_turn_33 hl (by decide) rfl (fun ls hl => ?_)
      refine lv_iload hx hb dX5_turn_35 (lv_at hl 0 rfl) ?_
      refine lv_if_eq (tgt := 47) hx hb dX5_turn_37 (by decide) (fun hc81 => ?_) (fun hc81 => ?_)
      · have h := it_p hc81 h
        refine lv_bipush (v := 10) hx hb dX5_turn_47 (by decide) ?_
        refine lv_aload_n hx hb dX5_turn_49 rfl (lv_at hl 1 rfl) ?_
        refine gt_X5_9 F iX5 (List.mem_cons_of_mem _ (List.mem_append_left _ (List.mem_of_getElem? (i := 0) rfl))) hP 0 rfl dX5_turn_50 ?_
        refine lv_iload_n hx hb dX5_turn_53 rfl (lv_at hl 2 rfl) ?_
        refine lv_iconst (v := 0) hx hb dX5_turn_54 (by decide) ?_
        obtain ⟨r82, hk83, h⟩ := bd1_e h
        refine cS_i (rest := [.ref a_z_s, .int 10]) F (kX5_of l D cI cJ H.size g p0 0 r82 hk83) (va_cwS 2 hts gX5_turn_X5_of rfl rfl rfl eSX5_of ⟨Nat.le_of_ble_eq_true rfl, Nat.le_of_ble_eq_true rfl⟩) [] hP hS (by decide) rfl rfl rfl hl.1 (Nat.le_of_ble_eq_true rfl) ⟨Nat.le_refl _, Nat.le_refl _⟩ rfl dX5_turn_55 (fun H locs hP hS => ?_)
        have hP : WD D A [(a_z, .inr (5, [.ref a_z_s, .ref a_z_m, .ref a_z_image, .ref a_z_was, .int z_hasImage, .ref a_z_letters, .ref a_z_row, .ref a_z_refused, .int z_letterMany, .int z_rowMany, .int z_reading, .ref a_z_numbers, .int z_seed])), (a_z_s, .inl (cI, 45, .inl z_s)), (a_z_refused, .inl (cI, 7, .inl z_refused))] H := hP
        obtain ⟨hg84, h⟩ := gd_e h
        refine r_ia F hP 1 rfl rfl hg84 dX5_turn_58 ?_
        refine lv_imul hx hb dX5_turn_59 ?_
        refine lv_aload_n hx hb dX5_turn_60 rfl (lv_at hl 1 rfl) ?_
        refine gt_X5_9 F iX5 (List.mem_cons_of_mem _ (List.mem_append_left _ (List.mem_of_getElem? (i := 0) rfl))) hP 0 rfl dX5_turn_61 ?_
        refine lv_iload_n hx hb dX5_turn_64 rfl (lv_at hl 2 rfl) ?_
        refine lv_iconst (v := 1) hx hb dX5_turn_65 (by decide) ?_
        obtain ⟨r85, hk86, h⟩ := bd1_e h
        refine cS_i (rest := [.ref a_z_s, .int (10 * (z_s r82.toNatClampNeg))]) F (kX5_of l D cI cJ H.size g p0 1 r85 hk86) (va_cwS 2 hts gX5_turn_X5_of rfl rfl rfl eSX5_of ⟨Nat.le_of_ble_eq_true rfl, Nat.le_of_ble_eq_true rfl⟩) [] hP hS (by decide) rfl rfl rfl hl.1 (Nat.le_of_ble_eq_true rfl) ⟨Nat.le_refl _, Nat.le_refl _⟩ rfl dX5_turn_66 (fun H locs hP hS => ?_)
        have hP : WD D A [(a_z, .inr (5, [.ref a_z_s, .ref a_z_m, .ref a_z_image, .ref a_z_was, .int z_hasImage, .ref a_z_letters, .ref a_z_row, .ref a_z_refused, .int z_letterMany, .int z_rowMany, .int z_reading, .ref a_z_numbers, .int z_seed])), (a_z_s, .inl (cI, 45, .inl z_s)), (a_z_refused, .inl (cI, 7, .inl z_refused))] H := hP
        obtain ⟨hg87, h⟩ := gd_e h
        refine r_ia F hP 1 rfl rfl hg87 dX5_turn_69 ?_
        refine lv_iadd hx hb dX5_turn_70 ?_
        refine lv_istore (lv' := [(5, .int ((10 * (z_s r82.toNatClampNeg)) + (z_s r85.toNatClampNeg))), (4, .int (-2)), (0, .ref a_z), (1, .int p0), (2, .int p1), (3, .int p2)]) hx hb dX5_turn_71 hl (by decide) rfl (fun ls hl => ?_)
        refine lv_aload_n hx hb dX5_turn_73 rfl (lv_at hl 2 rfl) ?_
        refine gt_X5_9 F iX5 (List.mem_cons_of_mem _ (List.mem_append_left _ (List.mem_of_getElem? (i := 0) rfl))) hP 0 rfl dX5_turn_74 ?_
        refine lv_iload_n hx hb dX5_turn_77 rfl (lv_at hl 3 rfl) ?_
        refine lv_iconst (v := 0) hx hb dX5_turn_78 (by decide) ?_
        obtain ⟨r88, hk89, h⟩ := bd1_e h
        refine cS_i (rest := [.ref a_z_s]) F (kX5_of l D cI cJ H.size g p0 0 r88 hk89) (va_cwS 2 hts gX5_turn_X5_of rfl rfl rfl eSX5_of ⟨Nat.le_of_ble_eq_true rfl, Nat.le_of_ble_eq_true rfl⟩) [] hP hS (by decide) rfl rfl rfl hl.1 (Nat.le_of_ble_eq_true rfl) ⟨Nat.le_refl _, Nat.le_refl _⟩ rfl dX5_turn_79 (fun H locs hP hS => ?_)
        have hP : WD D A [(a_z, .inr (5, [.ref a_z_s, .ref a_z_m, .ref a_z_image, .ref a_z_was, .int z_hasImage, .ref a_z_letters, .ref a_z_row, .ref a_z_refused, .int z_letterMany, .int z_rowMany, .int z_reading, .ref a_z_numbers, .int z_seed])), (a_z_s, .inl (cI, 45, .inl z_s)), (a_z_refused, .inl (cI, 7, .inl z_refused))] H := hP
        refine lv_iload_n hx hb dX5_turn_82 rfl (lv_at hl 4 rfl) ?_
        obtain ⟨hg90, h⟩ := gd_e h
        refine r_is F hP hS 1 rfl rfl hg90 dX5_turn_83 (fun H locs hP hS => ?_)
        have hP : WD D A [(a_z, .inr (5, [.ref a_z_s, .ref a_z_m, .ref a_z_image, .ref a_z_was, .int z_hasImage, .ref a_z_letters, .ref a_z_row, .ref a_z_refused, .int z_letterMany, .int z_rowMany, .int z_reading, .ref a_z_numbers, .int z_seed])), (a_z_s, .inl (cI, 45, .inl (upd z_s r88.toNatClampNeg p1))), (a_z_refused, .inl (cI, 7, .inl z_refused))] H := hP
        refine lv_aload_n hx hb dX5_turn_84 rfl (lv_at hl 2 rfl) ?_
        refine gt_X5_9 F iX5 (List.mem_cons_of_mem _ (List.mem_append_left _ (List.mem_of_getElem? (i := 0) rfl))) hP 0 rfl dX5_turn_85 ?_
        refine lv_iload_n hx hb dX5_turn_88 rfl (lv_at hl 3 rfl) ?_
        refine lv_iconst (v := 1) hx hb dX5_turn_89 (by decide) ?_
        obtain ⟨r91, hk92, h⟩ := bd1_e h
        refine cS_i (rest := [.ref a_z_s]) F (kX5_of l D cI cJ H.size g p0 1 r91 hk92) (va_cwS 2 hts gX5_turn_X5_of rfl rfl rfl eSX5_of ⟨Nat.le_of_ble_eq_true rfl, Nat.le_of_ble_eq_true rfl⟩) [] hP hS (by decide) rfl rfl rfl hl.1 (Nat.le_of_ble_eq_true rfl) ⟨Nat.le_refl _, Nat.le_refl _⟩ rfl dX5_turn_90 (fun H locs hP hS => ?_)
        have hP : WD D A [(a_z, .inr (5, [.ref a_z_s, .ref a_z_m, .ref a_z_image, .ref a_z_was, .int z_hasImage, .ref a_z_letters, .ref a_z_row, .ref a_z_refused, .int z_letterMany, .int z_rowMany, .int z_reading, .ref a_z_numbers, .int z_seed])), (a_z_s, .inl (cI, 45, .inl (upd z_s r88.toNatClampNeg p1))), (a_z_refused, .inl (cI, 7, .inl z_refused))] H := hP
        refine lv_iload_n hx hb dX5_turn_93 rfl (lv_at hl 5 rfl) ?_
        obtain ⟨hg93, h⟩ := gd_e h
        refine r_is F hP hS 1 rfl rfl hg93 dX5_turn_94 (fun H locs hP hS => ?_)
        have hP : WD D A [(a_z, .inr (5, [.ref a_z_s, .ref a_z_m, .ref a_z_image, .ref a_z_was, .int z_hasImage, .ref a_z_letters, .ref a_z_row, .ref a_z_refused, .int z_letterMany, .int z_rowMany, .int z_reading, .ref a_z_numbers, .int z_seed])), (a_z_s, .inl (cI, 45, .inl (upd (upd z_s r88.toNatClampNeg p1) r91.toNatClampNeg p2))), (a_z_refused, .inl (cI, 7, .inl z_refused))] H := hP
        refine lv_iload hx hb dX5_turn_95 (lv_at hl 0 rfl) ?_
        exact hret 97 H locs ls ((10 * (z_s r82.toNatClampNeg)) + (z_s r85.toNatClampNeg)) (upd (upd z_s r88.toNatClampNeg p1) r91.toNatClampNeg p2) z_refused h rfl dX5_turn_97 hP hS
      · have h := it_n hc81 h
        refine lv_aload_n hx hb dX5_turn_40 rfl (lv_at hl 1 rfl) ?_
        refine lv_iload hx hb dX5_turn_41 (lv_at hl 0 rfl) ?_
        obtain ⟨r94, z_refused_95, hk96, h⟩ := bd2_e h
        refine cV_i (rest := []) F (kX5_no l D cI cJ H.size g a_z a_z_s a_z_m a_z_image a_z_was a_z_letters a_z_row a_z_refused a_z_numbers z_hasImage z_letterMany z_rowMany z_reading z_seed z_refused (-2) r94 z_refused_95 hk96) (cwV 1 hts gX5_turn_X5_no rfl rfl rfl eVX5_no ⟨Nat.le_of_ble_eq_true rfl, Nat.le_of_ble_eq_true rfl⟩) [0, 2] hP hS (by decide) rfl rfl 0 rfl rfl rfl hl.1 (Nat.le_of_ble_eq_true rfl) ⟨Nat.le_refl _, Nat.le_refl _⟩ rfl dX5_turn_43 (fun H locs hP hS => ?_)
        have hP : WD D A [(a_z, .inr (5, [.ref a_z_s, .ref a_z_m, .ref a_z_image, .ref a_z_was, .int z_hasImage, .ref a_z_letters, .ref a_z_row, .ref a_z_refused, .int z_letterMany, .int z_rowMany, .int z_reading, .ref a_z_numbers, .int z_seed])), (a_z_s, .inl (cI, 45, .inl z_s)), (a_z_refused, .inl (cI, 7, .inl z_refused_95))] H := hP
        exact hret 46 H locs ls r94 z_s z_refused_95 h rfl dX5_turn_46 hP hS
  · have h := it_p hc59 h
    refine lv_iconst (v := (-1)) hx hb dX5_turn_8 (by decide) ?_
    refine lv_goto (tgt := 33) hx hb dX5_turn_9 (by decide) ?_
    refine lv_istore (lv' := [(4, .int (-1)), (0, .ref a_z), (1, .int p0), (2, .int p1), (3, .int p2)]) hx hb dX5_turn_33 hl (by decide) rfl (fun ls hl => ?_)
    refine lv_iload hx hb dX5_turn_35 (lv_at hl 0 rfl) ?_
    refine lv_if_eq (tgt := 47) hx hb dX5_turn_37 (by decide) (fun hc97 => ?_) (fun hc97 => ?_)
    · have h := it_p hc97 h
      refine lv_bipush (v := 10) hx hb dX5_turn_47 (by decide) ?_
      refine lv_aload_n hx hb dX5_turn_49 rfl (lv_at hl 1 rfl) ?_
      refine gt_X5_9 F iX5 (List.mem_cons_of_mem _ (List.mem_append_left _ (List.mem_of_getElem? (i := 0) rfl))) hP 0 rfl dX5_turn_50 ?_
      refine lv_iload_n hx hb dX5_turn_53 rfl (lv_at hl 2 rfl) ?_
      refine lv_iconst (v := 0) hx hb dX5_turn_54 (by decide) ?_
      obtain ⟨r98, hk99, h⟩ := bd1_e h
      refine cS_i (rest := [.ref a_z_s, .int 10]) F (kX5_of l D cI cJ H.size g p0 0 r98 hk99) (va_cwS 2 hts gX5_turn_X5_of rfl rfl rfl eSX5_of ⟨Nat.le_of_ble_eq_true rfl, Nat.le_of_ble_eq_true rfl⟩) [] hP hS (by decide) rfl rfl rfl hl.1 (Nat.le_of_ble_eq_true rfl) ⟨Nat.le_refl _, Nat.le_refl _⟩ rfl dX5_turn_55 (fun H locs hP hS => ?_)
      have hP : WD D A [(a_z, .inr (5, [.ref a_z_s, .ref a_z_m, .ref a_z_image, .ref a_z_was, .int z_hasImage, .ref a_z_letters, .ref a_z_row, .ref a_z_refused, .int z_letterMany, .int z_rowMany, .int z_reading, .ref a_z_numbers, .int z_seed])), (a_z_s, .inl (cI, 45, .inl z_s)), (a_z_refused, .inl (cI, 7, .inl z_refused))] H := hP
      obtain ⟨hg100, h⟩ := gd_e h
      refine r_ia F hP 1 rfl rfl hg100 dX5_turn_58 ?_
      refine lv_imul hx hb dX5_turn_59 ?_
      refine lv_aload_n hx hb dX5_turn_60 rfl (lv_at hl 1 rfl) ?_
      refine gt_X5_9 F iX5 (List.mem_cons_of_mem _ (List.mem_append_left _ (List.mem_of_getElem? (i := 0) rfl))) hP 0 rfl dX5_turn_61 ?_
      refine lv_iload_n hx hb dX5_turn_64 rfl (lv_at hl 2 rfl) ?_
      refine lv_iconst (v := 1) hx hb dX5_turn_65 (by decide) ?_
      obtain ⟨r101, hk102, h⟩ := bd1_e h
      refine cS_i (rest := [.ref a_z_s, .int (10 * (z_s r98.toNatClampNeg))]) F (kX5_of l D cI cJ H.size g p0 1 r101 hk102) (va_cwS 2 hts gX5_turn_X5_of rfl rfl rfl eSX5_of ⟨Nat.le_of_ble_eq_true rfl, Nat.le_of_ble_eq_true rfl⟩) [] hP hS (by decide) rfl rfl rfl hl.1 (Nat.le_of_ble_eq_true rfl) ⟨Nat.le_refl _, Nat.le_refl _⟩ rfl dX5_turn_66 (fun H locs hP hS => ?_)
      have hP : WD D A [(a_z, .inr (5, [.ref a_z_s, .ref a_z_m, .ref a_z_image, .ref a_z_was, .int z_hasImage, .ref a_z_letters, .ref a_z_row, .ref a_z_refused, .int z_letterMany, .int z_rowMany, .int z_reading, .ref a_z_numbers, .int z_seed])), (a_z_s, .inl (cI, 45, .inl z_s)), (a_z_refused, .inl (cI, 7, .inl z_refused))] H := hP
      obtain ⟨hg103, h⟩ := gd_e h
      refine r_ia F hP 1 rfl rfl hg103 dX5_turn_69 ?_
      refine lv_iadd hx hb dX5_turn_70 ?_
      refine lv_istore (lv' := [(5, .int ((10 * (z_s r98.toNatClampNeg)) + (z_s r101.toNatClampNeg))), (4, .int (-1)), (0, .ref a_z), (1, .int p0), (2, .int p1), (3, .int p2)]) hx hb dX5_turn_71 hl (by decide) rfl (fun ls hl => ?_)
      refine lv_aload_n hx hb dX5_turn_73 rfl (lv_at hl 2 rfl) ?_
      refine gt_X5_9 F iX5 (List.mem_cons_of_mem _ (List.mem_append_left _ (List.mem_of_getElem? (i := 0) rfl))) hP 0 rfl dX5_turn_74 ?_
      refine lv_iload_n hx hb dX5_turn_77 rfl (lv_at hl 3 rfl) ?_
      refine lv_iconst (v := 0) hx hb dX5_turn_78 (by decide) ?_
      obtain ⟨r104, hk105, h⟩ := bd1_e h
      refine cS_i (rest := [.ref a_z_s]) F (kX5_of l D cI cJ H.size g p0 0 r104 hk105) (va_cwS 2 hts gX5_turn_X5_of rfl rfl rfl eSX5_of ⟨Nat.le_of_ble_eq_true rfl, Nat.le_of_ble_eq_true rfl⟩) [] hP hS (by decide) rfl rfl rfl hl.1 (Nat.le_of_ble_eq_true rfl) ⟨Nat.le_refl _, Nat.le_refl _⟩ rfl dX5_turn_79 (fun H locs hP hS => ?_)
      have hP : WD D A [(a_z, .inr (5, [.ref a_z_s, .ref a_z_m, .ref a_z_image, .ref a_z_was, .int z_hasImage, .ref a_z_letters, .ref a_z_row, .ref a_z_refused, .int z_letterMany, .int z_rowMany, .int z_reading, .ref a_z_numbers, .int z_seed])), (a_z_s, .inl (cI, 45, .inl z_s)), (a_z_refused, .inl (cI, 7, .inl z_refused))] H := hP
      refine lv_iload_n hx hb dX5_turn_82 rfl (lv_at hl 4 rfl) ?_
      obtain ⟨hg106, h⟩ := gd_e h
      refine r_is F hP hS 1 rfl rfl hg106 dX5_turn_83 (fun H locs hP hS => ?_)
      have hP : WD D A [(a_z, .inr (5, [.ref a_z_s, .ref a_z_m, .ref a_z_image, .ref a_z_was, .int z_hasImage, .ref a_z_letters, .ref a_z_row, .ref a_z_refused, .int z_letterMany, .int z_rowMany, .int z_reading, .ref a_z_numbers, .int z_seed])), (a_z_s, .inl (cI, 45, .inl (upd z_s r104.toNatClampNeg p1))), (a_z_refused, .inl (cI, 7, .inl z_refused))] H := hP
      refine lv_aload_n hx hb dX5_turn_84 rfl (lv_at hl 2 rfl) ?_
      refine gt_X5_9 F iX5 (List.mem_cons_of_mem _ (List.mem_append_left _ (List.mem_of_getElem? (i := 0) rfl))) hP 0 rfl dX5_turn_85 ?_
      refine lv_iload_n hx hb dX5_turn_88 rfl (lv_at hl 3 rfl) ?_
      refine lv_iconst (v := 1) hx hb dX5_turn_89 (by decide) ?_
      obtain ⟨r107, hk108, h⟩ := bd1_e h
      refine cS_i (rest := [.ref a_z_s]) F (kX5_of l D cI cJ H.size g p0 1 r107 hk108) (va_cwS 2 hts gX5_turn_X5_of rfl rfl rfl eSX5_of ⟨Nat.le_of_ble_eq_true rfl, Nat.le_of_ble_eq_true rfl⟩) [] hP hS (by decide) rfl rfl rfl hl.1 (Nat.le_of_ble_eq_true rfl) ⟨Nat.le_refl _, Nat.le_refl _⟩ rfl dX5_turn_90 (fun H locs hP hS => ?_)
      have hP : WD D A [(a_z, .inr (5, [.ref a_z_s, .ref a_z_m, .ref a_z_image, .ref a_z_was, .int z_hasImage, .ref a_z_letters, .ref a_z_row, .ref a_z_refused, .int z_letterMany, .int z_rowMany, .int z_reading, .ref a_z_numbers, .int z_seed])), (a_z_s, .inl (cI, 45, .inl (upd z_s r104.toNatClampNeg p1))), (a_z_refused, .inl (cI, 7, .inl z_refused))] H := hP
      refine lv_iload_n hx hb dX5_turn_93 rfl (lv_at hl 5 rfl) ?_
      obtain ⟨hg109, h⟩ := gd_e h
      refine r_is F hP hS 1 rfl rfl hg109 dX5_turn_94 (fun H locs hP hS => ?_)
      have hP : WD D A [(a_z, .inr (5, [.ref a_z_s, .ref a_z_m, .ref a_z_image, .ref a_z_was, .int z_hasImage, .ref a_z_letters, .ref a_z_row, .ref a_z_refused, .int z_letterMany, .int z_rowMany, .int z_reading, .ref a_z_numbers, .int z_seed])), (a_z_s, .inl (cI, 45, .inl (upd (upd z_s r104.toNatClampNeg p1) r107.toNatClampNeg p2))), (a_z_refused, .inl (cI, 7, .inl z_refused))] H := hP
      refine lv_iload hx hb dX5_turn_95 (lv_at hl 0 rfl) ?_
      exact hret 97 H locs ls ((10 * (z_s r98.toNatClampNeg)) + (z_s r101.toNatClampNeg)) (upd (upd z_s r104.toNatClampNeg p1) r107.toNatClampNeg p2) z_refused h rfl dX5_turn_97 hP hS
    · have h := it_n hc97 h
      refine lv_aload_n hx hb dX5_turn_40 rfl (lv_at hl 1 rfl) ?_
      refine lv_iload hx hb dX5_turn_41 (lv_at hl 0 rfl) ?_
      obtain ⟨r110, z_refused_111, hk112, h⟩ := bd2_e h
      refine cV_i (rest := []) F (kX5_no l D cI cJ H.size g a_z a_z_s a_z_m a_z_image a_z_was a_z_letters a_z_row a_z_refused a_z_numbers z_hasImage z_letterMany z_rowMany z_reading z_seed z_refused (-1) r110 z_refused_111 hk112) (cwV 1 hts gX5_turn_X5_no rfl rfl rfl eVX5_no ⟨Nat.le_of_ble_eq_true rfl, Nat.le_of_ble_eq_true rfl⟩) [0, 2] hP hS (by decide) rfl rfl 0 rfl rfl rfl hl.1 (Nat.le_of_ble_eq_true rfl) ⟨Nat.le_refl _, Nat.le_refl _⟩ rfl dX5_turn_43 (fun H locs hP hS => ?_)
      have hP : WD D A [(a_z, .inr (5, [.ref a_z_s, .ref a_z_m, .ref a_z_image, .ref a_z_was, .int z_hasImage, .ref a_z_letters, .ref a_z_row, .ref a_z_refused, .int z_letterMany, .int z_rowMany, .int z_reading, .ref a_z_numbers, .int z_seed])), (a_z_s, .inl (cI, 45, .inl z_s)), (a_z_refused, .inl (cI, 7, .inl z_refused_111))] H := hP
      exact hret 46 H locs ls r110 z_s z_refused_111 h rfl dX5_turn_46 hP hS
theorem eSX5_days : yX5_days.cls ≠ "java/lang/invoke/MethodHandle" ∧ yX5_days.cls ≠ "java/lang/invoke/VarHandle" ∧ (parseMethodDescriptor yX5_days.desc).map (fun d => d.parameters.length) = some 1 := by decide +kernel
theorem eVX5_days : yX5_days.cls = RX5 ∧ yX5_days.cls ≠ "java/lang/invoke/MethodHandle" ∧ yX5_days.cls ≠ "java/lang/invoke/VarHandle" ∧ (parseMethodDescriptor yX5_days.desc).map (fun d => d.parameters.length) = some 1 := ⟨rfl, eSX5_days⟩
abbrev rmX5_days : Room := { frames := 7, cells := 0, slots := 0, locals := 157 }
def fX5_days (g : Nat) (p0 : Int32) (z_s : Nat → Int32) (z_refused : Nat → Int32) : Option (Int32 × (Nat → Int32) × (Nat → Int32)) := if 1 ≤ p0 then (if 60 < p0 then (bd2 (fX5_no g (-6) z_refused) fun r17 z_refused_18 => (some (r17, z_s, z_refused_18))) else (if ((z_s 2) + p0) ≤ 999 then (bd1 (fX5_daysOn g p0 z_s) fun z_s_21 => (some (z_s_21 3, z_s_21, z_refused))) else (bd2 (fX5_no g (-6) z_refused) fun r23 z_refused_24 => (some (r23, z_s, z_refused_24))))) else (bd2 (fX5_no g (-4) z_refused) fun r26 z_refused_27 => (some (r26, z_s, z_refused_27)))
set_option maxHeartbeats 4000000 in
set_option maxRecDepth 100000 in
theorem kX5_days (l : Launch) (D : va_G) (cI cJ : ClassId) (sz g : Nat) (a_z a_z_s a_z_m a_z_image a_z_was a_z_letters a_z_row a_z_refused a_z_numbers : Nat) (z_hasImage : Int32) (z_letterMany : Int32) (z_rowMany : Int32) (z_reading : Int32) (z_seed : Int32) (z_s : Nat → Int32) (z_refused : Nat → Int32) (p0 : Int32) (r : Int32) (n_z_s : Nat → Int32) (n_z_refused : Nat → Int32) (hf : fX5_days g p0 z_s z_refused = some (r, n_z_s, n_z_refused)) : Met l yX5_days wsX5_days rmX5_days (va_Pc [.ref a_z, .int p0] (sPc D (tyL cI cJ) [(a_z, .inr (5, [.ref a_z_s, .ref a_z_m, .ref a_z_image, .ref a_z_was, .int z_hasImage, .ref a_z_letters, .ref a_z_row, .ref a_z_refused, .int z_letterMany, .int z_rowMany, .int z_reading, .ref a_z_numbers, .int z_seed])), (a_z_s, .inl (cI, 45, .inl z_s)), (a_z_refused, .inl (cI, 7, .inl z_refused))] sz)) (qI D (tyL cI cJ) [(a_z, .inr (5, [.ref a_z_s, .ref a_z_m, .ref a_z_image, .ref a_z_was, .int z_hasImage, .ref a_z_letters, .ref a_z_row, .ref a_z_refused, .int z_letterMany, .int z_rowMany, .int z_reading, .ref a_z_numbers, .int z_seed])), (a_z_s, .inl (cI, 45, .inl z_s)), (a_z_refused, .inl (cI, 7, .inl z_refused))] sz [(a_z, .inr (5, [.ref a_z_s, .ref a_z_m, .ref a_z_image, .ref a_z_was, .int z_hasImage, .ref a_z_letters, .ref a_z_row, .ref a_z_refused, .int z_letterMany, .int z_rowMany, .int z_reading, .ref a_z_numbers, .int z_seed])), (a_z_s, .inl (cI, 45, .inl n_z_s)), (a_z_refused, .inl (cI, 7, .inl n_z_refused))] r) 0 0 (va_A [(a_z, .inr (5, [.ref a_z_s, .ref a_z_m, .ref a_z_image, .ref a_z_was, .int z_hasImage, .ref a_z_letters, .ref a_z_row, .ref a_z_refused, .int z_letterMany, .int z_rowMany, .int z_reading, .ref a_z_numbers, .int z_seed])), (a_z_s, .inl (cI, 45, .inl z_s)), (a_z_refused, .inl (cI, 7, .inl z_refused))] sz) := by
  refine st_i (cc := cX5_days) (maxL := 2) (by decide) rfl (Nat.le_of_ble_eq_true rfl) ?_
  intro p e s m args below meth c A Q F hret0 H locs hP hS ls hl
  have F : Cx p s m args c cX5_days 2 wsX5_days RX5 D (tyL cI cJ) A := F
  have hx := F.1.1
  have hb := F.1.2.1
  have hown := F.1.2.2.2.1
  have hts := F.1.2.2.2.2
  have iX5 : ∀ w ∈ wsX50, w ∈ wsX5_days := fun w h => (List.mem_cons_of_mem _ (List.mem_append_right _ h))
  have hret : ∀ (pc : Nat) (H : Heap) (locs : List Loc) (ls : Array Slot) (r' : Int32) (m_z_s : Nat → Int32) (m_z_refused : Nat → Int32), some (r', m_z_s, m_z_refused) = some (r, n_z_s, n_z_refused) → narrow .int (.int r') = .int r' → decode cX5_days pc = .ok (.ireturn, 1) → WD D A [(a_z, .inr (5, [.ref a_z_s, .ref a_z_m, .ref a_z_image, .ref a_z_was, .int z_hasImage, .ref a_z_letters, .ref a_z_row, .ref a_z_refused, .int z_letterMany, .int z_rowMany, .int z_reading, .ref a_z_numbers, .int z_seed])), (a_z_s, .inl (cI, 45, .inl m_z_s)), (a_z_refused, .inl (cI, 7, .inl m_z_refused))] H → va_S A s.heap H locs → W p l e rmX5_days s m args below meth c H locs 0 0 Q (F0 m pc ls [.int r']) := by
    intro pc H locs ls r' m_z_s m_z_refused h hn hd hP hS
    cases h
    exact hret0 pc H locs ls hn hd hP hS
  have hl : lv_has ls 2 [(0, .ref a_z), (1, .int p0)] := hl
  have h := hf
  unfold fX5_days at h
  refine lv_iload_n hx hb dX5_days_0 rfl (lv_at hl 1 rfl) ?_
  refine lv_iconst (v := 1) hx hb dX5_days_1 (by decide) ?_
  refine lv_icmp_ge (tgt := 12) hx hb dX5_days_2 (by decide) (fun hc15 => ?_) (fun hc15 => ?_)
  · have h := it_p hc15 h
    refine lv_iload_n hx hb dX5_days_12 rfl (lv_at hl 1 rfl) ?_
    refine lv_bipush (v := 60) hx hb dX5_days_13 (by decide) ?_
    refine lv_icmp_gt (tgt := 32) hx hb dX5_days_15 (by decide) (fun hc16 => ?_) (fun hc16 => ?_)
    · have h := it_p hc16 h
      refine lv_aload_n hx hb dX5_days_32 rfl (lv_at hl 0 rfl) ?_
      refine lv_bipush (v := (-6)) hx hb dX5_days_33 (by decide) ?_
      obtain ⟨r17, z_refused_18, hk19, h⟩ := bd2_e h
      refine cV_i (rest := []) F (kX5_no l D cI cJ H.size g a_z a_z_s a_z_m a_z_image a_z_was a_z_letters a_z_row a_z_refused a_z_numbers z_hasImage z_letterMany z_rowMany z_reading z_seed z_refused (-6) r17 z_refused_18 hk19) (cwV 1 hts gX5_days_X5_no rfl rfl rfl eVX5_no ⟨Nat.le_of_ble_eq_true rfl, Nat.le_of_ble_eq_true rfl⟩) [0, 2] hP hS (by decide) rfl rfl 0 rfl rfl rfl hl.1 (Nat.le_of_ble_eq_true rfl) ⟨Nat.le_refl _, Nat.le_refl _⟩ rfl dX5_days_35 (fun H locs hP hS => ?_)
      have hP : WD D A [(a_z, .inr (5, [.ref a_z_s, .ref a_z_m, .ref a_z_image, .ref a_z_was, .int z_hasImage, .ref a_z_letters, .ref a_z_row, .ref a_z_refused, .int z_letterMany, .int z_rowMany, .int z_reading, .ref a_z_numbers, .int z_seed])), (a_z_s, .inl (cI, 45, .inl z_s)), (a_z_refused, .inl (cI, 7, .inl z_refused_18))] H := hP
      exact hret 38 H locs ls r17 z_s z_refused_18 h rfl dX5_days_38 hP hS
    · have h := it_n hc16 h
      refine lv_aload_n hx hb dX5_days_18 rfl (lv_at hl 0 rfl) ?_
      refine gt_X5_9 F iX5 (List.mem_cons_of_mem _ (List.mem_append_left _ (List.mem_append_left _ (List.mem_of_getElem? (i := 0) rfl)))) hP 0 rfl dX5_days_19 ?_
      refine lv_iconst (v := 2) hx hb dX5_days_22 (by decide) ?_
      refine r_ia F hP 1 rfl (j := 2) rfl (by decide) dX5_days_23 ?_
      refine lv_iload_n hx hb dX5_days_24 rfl (lv_at hl 1 rfl) ?_
      refine lv_iadd hx hb dX5_days_25 ?_
      refine lv_sipush (v := 999) hx hb dX5_days_26 (by decide) ?_
      refine lv_icmp_le (tgt := 39) hx hb dX5_days_29 (by decide) (fun hc20 => ?_) (fun hc20 => ?_)
      · have h := it_p hc20 h
        refine lv_aload_n hx hb dX5_days_39 rfl (lv_at hl 0 rfl) ?_
        refine gt_X5_9 F iX5 (List.mem_cons_of_mem _ (List.mem_append_left _ (List.mem_append_left _ (List.mem_of_getElem? (i := 0) rfl)))) hP 0 rfl dX5_days_40 ?_
        refine lv_iload_n hx hb dX5_days_43 rfl (lv_at hl 1 rfl) ?_
        obtain ⟨z_s_21, hk22, h⟩ := bd1_e h
        refine cS_v (rest := []) F (kX5_daysOn l D cI cJ H.size g a_z_s z_s p0 z_s_21 hk22) (va_cwS 2 hts gX5_days_X5_daysOn rfl rfl rfl eSX5_daysOn ⟨Nat.le_of_ble_eq_true rfl, Nat.le_of_ble_eq_true rfl⟩) [1] hP hS (by decide) rfl rfl rfl hl.1 (Nat.le_of_ble_eq_true rfl) ⟨Nat.le_refl _, Nat.le_refl _⟩ rfl dX5_days_44 (fun H locs hP hS => ?_)
        have hP : WD D A [(a_z, .inr (5, [.ref a_z_s, .ref a_z_m, .ref a_z_image, .ref a_z_was, .int z_hasImage, .ref a_z_letters, .ref a_z_row, .ref a_z_refused, .int z_letterMany, .int z_rowMany, .int z_reading, .ref a_z_numbers, .int z_seed])), (a_z_s, .inl (cI, 45, .inl z_s_21)), (a_z_refused, .inl (cI, 7, .inl z_refused))] H := hP
        refine lv_aload_n hx hb dX5_days_47 rfl (lv_at hl 0 rfl) ?_
        refine gt_X5_9 F iX5 (List.mem_cons_of_mem _ (List.mem_append_left _ (List.mem_append_left _ (List.mem_of_getElem? (i := 0) rfl)))) hP 0 rfl dX5_days_48 ?_
        refine lv_iconst (v := 3) hx hb dX5_days_51 (by decide) ?_
        refine r_ia F hP 1 rfl (j := 3) rfl (by decide) dX5_days_52 ?_
        exact hret 53 H locs ls (z_s_21 3) z_s_21 z_refused h rfl dX5_days_53 hP hS
      · have h := it_n hc20 h
        refine lv_aload_n hx hb dX5_days_32 rfl (lv_at hl 0 rfl) ?_
        refine lv_bipush (v := (-6)) hx hb dX5_days_33 (by decide) ?_
        obtain ⟨r23, z_refused_24, hk25, h⟩ := bd2_e h
        refine cV_i (rest := []) F (kX5_no l D cI cJ H.size g a_z a_z_s a_z_m a_z_image a_z_was a_z_letters a_z_row a_z_refused a_z_numbers z_hasImage z_letterMany z_rowMany z_reading z_seed z_refused (-6) r23 z_refused_24 hk25) (cwV 1 hts gX5_days_X5_no rfl rfl rfl eVX5_no ⟨Nat.le_of_ble_eq_true rfl, Nat.le_of_ble_eq_true rfl⟩) [0, 2] hP hS (by decide) rfl rfl 0 rfl rfl rfl hl.1 (Nat.le_of_ble_eq_true rfl) ⟨Nat.le_refl _, Nat.le_refl _⟩ rfl dX5_days_35 (fun H locs hP hS => ?_)
        have hP : WD D A [(a_z, .inr (5, [.ref a_z_s, .ref a_z_m, .ref a_z_image, .ref a_z_was, .int z_hasImage, .ref a_z_letters, .ref a_z_row, .ref a_z_refused, .int z_letterMany, .int z_rowMany, .int z_reading, .ref a_z_numbers, .int z_seed])), (a_z_s, .inl (cI, 45, .inl z_s)), (a_z_refused, .inl (cI, 7, .inl z_refused_24))] H := hP
        exact hret 38 H locs ls r23 z_s z_refused_24 h rfl dX5_days_38 hP hS
  · have h := it_n hc15 h
    refine lv_aload_n hx hb dX5_days_5 rfl (lv_at hl 0 rfl) ?_
    refine lv_bipush (v := (-4)) hx hb dX5_days_6 (by decide) ?_
    obtain ⟨r26, z_refused_27, hk28, h⟩ := bd2_e h
    refine cV_i (rest := []) F (kX5_no l D cI cJ H.size g a_z a_z_s a_z_m a_z_image a_z_was a_z_letters a_z_row a_z_refused a_z_numbers z_hasImage z_letterMany z_rowMany z_reading z_seed z_refused (-4) r26 z_refused_27 hk28) (cwV 1 hts gX5_days_X5_no rfl rfl rfl eVX5_no ⟨Nat.le_of_ble_eq_true rfl, Nat.le_of_ble_eq_true rfl⟩) [0, 2] hP hS (by decide) rfl rfl 0 rfl rfl rfl hl.1 (Nat.le_of_ble_eq_true rfl) ⟨Nat.le_refl _, Nat.le_refl _⟩ rfl dX5_days_8 (fun H locs hP hS => ?_)
    have hP : WD D A [(a_z, .inr (5, [.ref a_z_s, .ref a_z_m, .ref a_z_image, .ref a_z_was, .int z_hasImage, .ref a_z_letters, .ref a_z_row, .ref a_z_refused, .int z_letterMany, .int z_rowMany, .int z_reading, .ref a_z_numbers, .int z_seed])), (a_z_s, .inl (cI, 45, .inl z_s)), (a_z_refused, .inl (cI, 7, .inl z_refused_27))] H := hP
    exact hret 11 H locs ls r26 z_s z_refused_27 h rfl dX5_days_11 hP hS
theorem eSX5_needle : yX5_needle.cls ≠ "java/lang/invoke/MethodHandle" ∧ yX5_needle.cls ≠ "java/lang/invoke/VarHandle" ∧ (parseMethodDescriptor yX5_needle.desc).map (fun d => d.parameters.length) = some 0 := by decide +kernel
theorem eVX5_needle : yX5_needle.cls = RX5 ∧ yX5_needle.cls ≠ "java/lang/invoke/MethodHandle" ∧ yX5_needle.cls ≠ "java/lang/invoke/VarHandle" ∧ (parseMethodDescriptor yX5_needle.desc).map (fun d => d.parameters.length) = some 0 := ⟨rfl, eSX5_needle⟩
abbrev rmX5_needle : Room := { frames := 5, cells := 0, slots := 0, locals := 112 }
def fX5_needle (g : Nat) (z_s : Nat → Int32) : Option (Int32) := bd1 (fX5_needleIn g (-9) z_s) fun r3 => (some r3)
set_option maxHeartbeats 4000000 in
set_option maxRecDepth 100000 in
theorem kX5_needle (l : Launch) (D : va_G) (cI cJ : ClassId) (sz g : Nat) (a_z a_z_s a_z_m a_z_image a_z_was a_z_letters a_z_row a_z_refused a_z_numbers : Nat) (z_hasImage : Int32) (z_letterMany : Int32) (z_rowMany : Int32) (z_reading : Int32) (z_seed : Int32) (z_s : Nat → Int32) (r : Int32) (hf : fX5_needle g z_s = some r) : Met l yX5_needle wsX5_needle rmX5_needle (va_Pc [.ref a_z] (sPc D (tyL cI cJ) [(a_z, .inr (5, [.ref a_z_s, .ref a_z_m, .ref a_z_image, .ref a_z_was, .int z_hasImage, .ref a_z_letters, .ref a_z_row, .ref a_z_refused, .int z_letterMany, .int z_rowMany, .int z_reading, .ref a_z_numbers, .int z_seed])), (a_z_s, .inl (cI, 45, .inl z_s))] sz)) (qI D (tyL cI cJ) [(a_z, .inr (5, [.ref a_z_s, .ref a_z_m, .ref a_z_image, .ref a_z_was, .int z_hasImage, .ref a_z_letters, .ref a_z_row, .ref a_z_refused, .int z_letterMany, .int z_rowMany, .int z_reading, .ref a_z_numbers, .int z_seed])), (a_z_s, .inl (cI, 45, .inl z_s))] sz [(a_z, .inr (5, [.ref a_z_s, .ref a_z_m, .ref a_z_image, .ref a_z_was, .int z_hasImage, .ref a_z_letters, .ref a_z_row, .ref a_z_refused, .int z_letterMany, .int z_rowMany, .int z_reading, .ref a_z_numbers, .int z_seed])), (a_z_s, .inl (cI, 45, .inl z_s))] r) 0 0 (va_A [(a_z, .inr (5, [.ref a_z_s, .ref a_z_m, .ref a_z_image, .ref a_z_was, .int z_hasImage, .ref a_z_letters, .ref a_z_row, .ref a_z_refused, .int z_letterMany, .int z_rowMany, .int z_reading, .ref a_z_numbers, .int z_seed])), (a_z_s, .inl (cI, 45, .inl z_s))] sz) := by
  refine st_i (cc := cX5_needle) (maxL := 1) (by decide) rfl (Nat.le_of_ble_eq_true rfl) ?_
  intro p e s m args below meth c A Q F hret0 H locs hP hS ls hl
  have F : Cx p s m args c cX5_needle 1 wsX5_needle RX5 D (tyL cI cJ) A := F
  have hx := F.1.1
  have hb := F.1.2.1
  have hown := F.1.2.2.2.1
  have hts := F.1.2.2.2.2
  have iX5 : ∀ w ∈ wsX50, w ∈ wsX5_needle := fun w h => (List.mem_cons_of_mem _ (List.mem_append_right _ h))
  have hret : ∀ (pc : Nat) (H : Heap) (locs : List Loc) (ls : Array Slot) (r' : Int32), some r' = some r → narrow .int (.int r') = .int r' → decode cX5_needle pc = .ok (.ireturn, 1) → WD D A [(a_z, .inr (5, [.ref a_z_s, .ref a_z_m, .ref a_z_image, .ref a_z_was, .int z_hasImage, .ref a_z_letters, .ref a_z_row, .ref a_z_refused, .int z_letterMany, .int z_rowMany, .int z_reading, .ref a_z_numbers, .int z_seed])), (a_z_s, .inl (cI, 45, .inl z_s))] H → va_S A s.heap H locs → W p l e rmX5_needle s m args below meth c H locs 0 0 Q (F0 m pc ls [.int r']) := by
    intro pc H locs ls r' h hn hd hP hS
    cases h
    exact hret0 pc H locs ls hn hd hP hS
  have hl : lv_has ls 1 [(0, .ref a_z)] := hl
  have h := hf
  unfold fX5_needle at h
  refine lv_aload_n hx hb dX5_needle_0 rfl (lv_at hl 0 rfl) ?_
  refine gt_X5_9 F iX5 (List.mem_cons_of_mem _ (List.mem_append_left _ (List.mem_append_left _ (List.mem_of_getElem? (i := 0) rfl)))) hP 0 rfl dX5_needle_1 ?_
  refine lv_bipush (v := (-9)) hx hb dX5_needle_4 (by decide) ?_
  obtain ⟨r3, hk4, h⟩ := bd1_e h
  refine cS_i (rest := []) F (kX5_needleIn l D cI cJ H.size g a_z_s z_s (-9) r3 hk4) (va_cwS 2 hts gX5_needle_X5_needleIn rfl rfl rfl eSX5_needleIn ⟨Nat.le_of_ble_eq_true rfl, Nat.le_of_ble_eq_true rfl⟩) [1] hP hS (by decide) rfl rfl rfl hl.1 (Nat.le_of_ble_eq_true rfl) ⟨Nat.le_refl _, Nat.le_refl _⟩ rfl dX5_needle_6 (fun H locs hP hS => ?_)
  have hP : WD D A [(a_z, .inr (5, [.ref a_z_s, .ref a_z_m, .ref a_z_image, .ref a_z_was, .int z_hasImage, .ref a_z_letters, .ref a_z_row, .ref a_z_refused, .int z_letterMany, .int z_rowMany, .int z_reading, .ref a_z_numbers, .int z_seed])), (a_z_s, .inl (cI, 45, .inl z_s))] H := hP
  exact hret 9 H locs ls r3 h rfl dX5_needle_9 hP hS
theorem eSX5_takes : yX5_takes.cls ≠ "java/lang/invoke/MethodHandle" ∧ yX5_takes.cls ≠ "java/lang/invoke/VarHandle" ∧ (parseMethodDescriptor yX5_takes.desc).map (fun d => d.parameters.length) = some 1 := by decide +kernel
theorem eVX5_takes : yX5_takes.cls = RX5 ∧ yX5_takes.cls ≠ "java/lang/invoke/MethodHandle" ∧ yX5_takes.cls ≠ "java/lang/invoke/VarHandle" ∧ (parseMethodDescriptor yX5_takes.desc).map (fun d => d.parameters.length) = some 1 := ⟨rfl, eSX5_takes⟩
abbrev rmX5_takes : Room := { frames := 7, cells := 0, slots := 0, locals := 157 }
def fX5_takes (g : Nat) (p0 : Int32) (z_s : Nat → Int32) (z_m : Nat → Int32) : Option ((Nat → Int32)) := bd1 (fX5_copies g z_s z_m) fun z_m_5 => (bd1 (fX5_daysOn g p0 z_m_5) fun z_m_7 => (some z_m_7))
set_option maxHeartbeats 4000000 in
set_option maxRecDepth 100000 in
theorem kX5_takes (l : Launch) (D : va_G) (cI cJ : ClassId) (sz g : Nat) (a_z a_z_s a_z_m a_z_image a_z_was a_z_letters a_z_row a_z_refused a_z_numbers : Nat) (z_hasImage : Int32) (z_letterMany : Int32) (z_rowMany : Int32) (z_reading : Int32) (z_seed : Int32) (z_s : Nat → Int32) (z_m : Nat → Int32) (p0 : Int32) (n_z_m : Nat → Int32) (hf : fX5_takes g p0 z_s z_m = some n_z_m) : Met l yX5_takes wsX5_takes rmX5_takes (va_Pc [.ref a_z, .int p0] (sPc D (tyL cI cJ) [(a_z, .inr (5, [.ref a_z_s, .ref a_z_m, .ref a_z_image, .ref a_z_was, .int z_hasImage, .ref a_z_letters, .ref a_z_row, .ref a_z_refused, .int z_letterMany, .int z_rowMany, .int z_reading, .ref a_z_numbers, .int z_seed])), (a_z_s, .inl (cI, 45, .inl z_s)), (a_z_m, .inl (cI, 45, .inl z_m))] sz)) (qV D (tyL cI cJ) [(a_z, .inr (5, [.ref a_z_s, .ref a_z_m, .ref a_z_image, .ref a_z_was, .int z_hasImage, .ref a_z_letters, .ref a_z_row, .ref a_z_refused, .int z_letterMany, .int z_rowMany, .int z_reading, .ref a_z_numbers, .int z_seed])), (a_z_s, .inl (cI, 45, .inl z_s)), (a_z_m, .inl (cI, 45, .inl z_m))] sz [(a_z, .inr (5, [.ref a_z_s, .ref a_z_m, .ref a_z_image, .ref a_z_was, .int z_hasImage, .ref a_z_letters, .ref a_z_row, .ref a_z_refused, .int z_letterMany, .int z_rowMany, .int z_reading, .ref a_z_numbers, .int z_seed])), (a_z_s, .inl (cI, 45, .inl z_s)), (a_z_m, .inl (cI, 45, .inl n_z_m))]) 0 0 (va_A [(a_z, .inr (5, [.ref a_z_s, .ref a_z_m, .ref a_z_image, .ref a_z_was, .int z_hasImage, .ref a_z_letters, .ref a_z_row, .ref a_z_refused, .int z_letterMany, .int z_rowMany, .int z_reading, .ref a_z_numbers, .int z_seed])), (a_z_s, .inl (cI, 45, .inl z_s)), (a_z_m, .inl (cI, 45, .inl z_m))] sz) := by
  refine st_v (cc := cX5_takes) (maxL := 2) (by decide) rfl (Nat.le_of_ble_eq_true rfl) ?_
  intro p e s m args below meth c A Q F hret0 H locs hP hS ls hl
  have F : Cx p s m args c cX5_takes 2 wsX5_takes RX5 D (tyL cI cJ) A := F
  have hx := F.1.1
  have hb := F.1.2.1
  have hown := F.1.2.2.2.1
  have hts := F.1.2.2.2.2
  have iX5 : ∀ w ∈ wsX50, w ∈ wsX5_takes := fun w h => (List.mem_cons_of_mem _ (List.mem_append_right _ h))
  have hret : ∀ (pc : Nat) (H : Heap) (locs : List Loc) (ls : Array Slot) (m_z_m : Nat → Int32), some m_z_m = some n_z_m → decode cX5_takes pc = .ok (.return_, 1) → WD D A [(a_z, .inr (5, [.ref a_z_s, .ref a_z_m, .ref a_z_image, .ref a_z_was, .int z_hasImage, .ref a_z_letters, .ref a_z_row, .ref a_z_refused, .int z_letterMany, .int z_rowMany, .int z_reading, .ref a_z_numbers, .int z_seed])), (a_z_s, .inl (cI, 45, .inl z_s)), (a_z_m, .inl (cI, 45, .inl m_z_m))] H → va_S A s.heap H locs → W p l e rmX5_takes s m args below meth c H locs 0 0 Q (F0 m pc ls []) := by
    intro pc H locs ls m_z_m h hd hP hS
    cases h
    exact hret0 pc H locs ls hd hP hS
  have hl : lv_has ls 2 [(0, .ref a_z), (1, .int p0)] := hl
  have h := hf
  unfold fX5_takes at h
  refine lv_aload_n hx hb dX5_takes_0 rfl (lv_at hl 0 rfl) ?_
  refine gt_X5_9 F iX5 (List.mem_cons_of_mem _ (List.mem_append_left _ (List.mem_append_left _ (List.mem_of_getElem? (i := 0) rfl)))) hP 0 rfl dX5_takes_1 ?_
  refine lv_aload_n hx hb dX5_takes_4 rfl (lv_at hl 0 rfl) ?_
  refine gt_X5_13 F iX5 (List.mem_cons_of_mem _ (List.mem_append_left _ (List.mem_append_left _ (List.mem_of_getElem? (i := 1) rfl)))) hP 0 rfl dX5_takes_5 ?_
  obtain ⟨z_m_5, hk6, h⟩ := bd1_e h
  refine cS_v (rest := []) F (kX5_copies l D cI cJ H.size g a_z_s a_z_m z_s z_m z_m_5 hk6) (va_cwS 2 hts gX5_takes_X5_copies rfl rfl rfl eSX5_copies ⟨Nat.le_of_ble_eq_true rfl, Nat.le_of_ble_eq_true rfl⟩) [1, 2] hP hS (by decide) rfl rfl rfl hl.1 (Nat.le_of_ble_eq_true rfl) ⟨Nat.le_refl _, Nat.le_refl _⟩ rfl dX5_takes_8 (fun H locs hP hS => ?_)
  have hP : WD D A [(a_z, .inr (5, [.ref a_z_s, .ref a_z_m, .ref a_z_image, .ref a_z_was, .int z_hasImage, .ref a_z_letters, .ref a_z_row, .ref a_z_refused, .int z_letterMany, .int z_rowMany, .int z_reading, .ref a_z_numbers, .int z_seed])), (a_z_s, .inl (cI, 45, .inl z_s)), (a_z_m, .inl (cI, 45, .inl z_m_5))] H := hP
  refine lv_aload_n hx hb dX5_takes_11 rfl (lv_at hl 0 rfl) ?_
  refine gt_X5_13 F iX5 (List.mem_cons_of_mem _ (List.mem_append_left _ (List.mem_append_left _ (List.mem_of_getElem? (i := 1) rfl)))) hP 0 rfl dX5_takes_12 ?_
  refine lv_iload_n hx hb dX5_takes_15 rfl (lv_at hl 1 rfl) ?_
  obtain ⟨z_m_7, hk8, h⟩ := bd1_e h
  refine cS_v (rest := []) F (kX5_daysOn l D cI cJ H.size g a_z_m z_m_5 p0 z_m_7 hk8) (va_cwS 2 hts gX5_takes_X5_daysOn rfl rfl rfl eSX5_daysOn ⟨Nat.le_of_ble_eq_true rfl, Nat.le_of_ble_eq_true rfl⟩) [2] hP hS (by decide) rfl rfl rfl hl.1 (Nat.le_of_ble_eq_true rfl) ⟨Nat.le_refl _, Nat.le_refl _⟩ rfl dX5_takes_16 (fun H locs hP hS => ?_)
  have hP : WD D A [(a_z, .inr (5, [.ref a_z_s, .ref a_z_m, .ref a_z_image, .ref a_z_was, .int z_hasImage, .ref a_z_letters, .ref a_z_row, .ref a_z_refused, .int z_letterMany, .int z_rowMany, .int z_reading, .ref a_z_numbers, .int z_seed])), (a_z_s, .inl (cI, 45, .inl z_s)), (a_z_m, .inl (cI, 45, .inl z_m_7))] H := hP
  exact hret 19 H locs ls z_m_7 h dX5_takes_19 hP hS
theorem eSX5_shipThen : yX5_shipThen.cls ≠ "java/lang/invoke/MethodHandle" ∧ yX5_shipThen.cls ≠ "java/lang/invoke/VarHandle" ∧ (parseMethodDescriptor yX5_shipThen.desc).map (fun d => d.parameters.length) = some 1 := by decide +kernel
theorem eVX5_shipThen : yX5_shipThen.cls = RX5 ∧ yX5_shipThen.cls ≠ "java/lang/invoke/MethodHandle" ∧ yX5_shipThen.cls ≠ "java/lang/invoke/VarHandle" ∧ (parseMethodDescriptor yX5_shipThen.desc).map (fun d => d.parameters.length) = some 1 := ⟨rfl, eSX5_shipThen⟩
abbrev rmX5_shipThen : Room := { frames := 8, cells := 0, slots := 0, locals := 178 }
def fX5_shipThen (g : Nat) (p0 : Int32) (z_s : Nat → Int32) (z_m : Nat → Int32) (z_refused : Nat → Int32) : Option (Int32 × (Nat → Int32) × (Nat → Int32)) := bd1 (fX5_wrongBy g p0 0 60) fun r9 => (if r9 = 0 then (bd1 (fX5_takes g p0 z_s z_m) fun z_m_12 => (some (z_m_12 3, z_m_12, z_refused))) else (bd2 (fX5_no g r9 z_refused) fun r14 z_refused_15 => (some (r14, z_m, z_refused_15))))
set_option maxHeartbeats 4000000 in
set_option maxRecDepth 100000 in
theorem kX5_shipThen (l : Launch) (D : va_G) (cI cJ : ClassId) (sz g : Nat) (a_z a_z_s a_z_m a_z_image a_z_was a_z_letters a_z_row a_z_refused a_z_numbers : Nat) (z_hasImage : Int32) (z_letterMany : Int32) (z_rowMany : Int32) (z_reading : Int32) (z_seed : Int32) (z_s : Nat → Int32) (z_m : Nat → Int32) (z_refused : Nat → Int32) (p0 : Int32) (r : Int32) (n_z_m : Nat → Int32) (n_z_refused : Nat → Int32) (hf : fX5_shipThen g p0 z_s z_m z_refused = some (r, n_z_m, n_z_refused)) : Met l yX5_shipThen wsX5_shipThen rmX5_shipThen (va_Pc [.ref a_z, .int p0] (sPc D (tyL cI cJ) [(a_z, .inr (5, [.ref a_z_s, .ref a_z_m, .ref a_z_image, .ref a_z_was, .int z_hasImage, .ref a_z_letters, .ref a_z_row, .ref a_z_refused, .int z_letterMany, .int z_rowMany, .int z_reading, .ref a_z_numbers, .int z_seed])), (a_z_s, .inl (cI, 45, .inl z_s)), (a_z_m, .inl (cI, 45, .inl z_m)), (a_z_refused, .inl (cI, 7, .inl z_refused))] sz)) (qI D (tyL cI cJ) [(a_z, .inr (5, [.ref a_z_s, .ref a_z_m, .ref a_z_image, .ref a_z_was, .int z_hasImage, .ref a_z_letters, .ref a_z_row, .ref a_z_refused, .int z_letterMany, .int z_rowMany, .int z_reading, .ref a_z_numbers, .int z_seed])), (a_z_s, .inl (cI, 45, .inl z_s)), (a_z_m, .inl (cI, 45, .inl z_m)), (a_z_refused, .inl (cI, 7, .inl z_refused))] sz [(a_z, .inr (5, [.ref a_z_s, .ref a_z_m, .ref a_z_image, .ref a_z_was, .int z_hasImage, .ref a_z_letters, .ref a_z_row, .ref a_z_refused, .int z_letterMany, .int z_rowMany, .int z_reading, .ref a_z_numbers, .int z_seed])), (a_z_s, .inl (cI, 45, .inl z_s)), (a_z_m, .inl (cI, 45, .inl n_z_m)), (a_z_refused, .inl (cI, 7, .inl n_z_refused))] r) 0 0 (va_A [(a_z, .inr (5, [.ref a_z_s, .ref a_z_m, .ref a_z_image, .ref a_z_was, .int z_hasImage, .ref a_z_letters, .ref a_z_row, .ref a_z_refused, .int z_letterMany, .int z_rowMany, .int z_reading, .ref a_z_numbers, .int z_seed])), (a_z_s, .inl (cI, 45, .inl z_s)), (a_z_m, .inl (cI, 45, .inl z_m)), (a_z_refused, .inl (cI, 7, .inl z_refused))] sz) := by
  refine st_i (cc := cX5_shipThen) (maxL := 3) (by decide) rfl (Nat.le_of_ble_eq_true rfl) ?_
  intro p e s m args below meth c A Q F hret0 H locs hP hS ls hl
  have F : Cx p s m args c cX5_shipThen 3 wsX5_shipThen RX5 D (tyL cI cJ) A := F
  have hx := F.1.1
  have hb := F.1.2.1
  have hown := F.1.2.2.2.1
  have hts := F.1.2.2.2.2
  have iX5 : ∀ w ∈ wsX50, w ∈ wsX5_shipThen := fun w h => (List.mem_cons_of_mem _ (List.mem_append_right _ h))
  have hret : ∀ (pc : Nat) (H : Heap) (locs : List Loc) (ls : Array Slot) (r' : Int32) (m_z_m : Nat → Int32) (m_z_refused : Nat → Int32), some (r', m_z_m, m_z_refused) = some (r, n_z_m, n_z_refused) → narrow .int (.int r') = .int r' → decode cX5_shipThen pc = .ok (.ireturn, 1) → WD D A [(a_z, .inr (5, [.ref a_z_s, .ref a_z_m, .ref a_z_image, .ref a_z_was, .int z_hasImage, .ref a_z_letters, .ref a_z_row, .ref a_z_refused, .int z_letterMany, .int z_rowMany, .int z_reading, .ref a_z_numbers, .int z_seed])), (a_z_s, .inl (cI, 45, .inl z_s)), (a_z_m, .inl (cI, 45, .inl m_z_m)), (a_z_refused, .inl (cI, 7, .inl m_z_refused))] H → va_S A s.heap H locs → W p l e rmX5_shipThen s m args below meth c H locs 0 0 Q (F0 m pc ls [.int r']) := by
    intro pc H locs ls r' m_z_m m_z_refused h hn hd hP hS
    cases h
    exact hret0 pc H locs ls hn hd hP hS
  have hl : lv_has ls 3 [(0, .ref a_z), (1, .int p0)] := hl
  have h := hf
  unfold fX5_shipThen at h
  refine lv_iload_n hx hb dX5_shipThen_0 rfl (lv_at hl 1 rfl) ?_
  refine lv_iconst (v := 0) hx hb dX5_shipThen_1 (by decide) ?_
  refine lv_bipush (v := 60) hx hb dX5_shipThen_2 (by decide) ?_
  obtain ⟨r9, hk10, h⟩ := bd1_e h
  refine cS_i (rest := []) F (kX5_wrongBy l D cI cJ H.size g p0 0 60 r9 hk10) (va_cwS 3 hts gX5_shipThen_X5_wrongBy rfl rfl rfl eSX5_wrongBy ⟨Nat.le_of_ble_eq_true rfl, Nat.le_of_ble_eq_true rfl⟩) [] hP hS (by decide) rfl rfl rfl hl.1 (Nat.le_of_ble_eq_true rfl) ⟨Nat.le_refl _, Nat.le_refl _⟩ rfl dX5_shipThen_4 (fun H locs hP hS => ?_)
  have hP : WD D A [(a_z, .inr (5, [.ref a_z_s, .ref a_z_m, .ref a_z_image, .ref a_z_was, .int z_hasImage, .ref a_z_letters, .ref a_z_row, .ref a_z_refused, .int z_letterMany, .int z_rowMany, .int z_reading, .ref a_z_numbers, .int z_seed])), (a_z_s, .inl (cI, 45, .inl z_s)), (a_z_m, .inl (cI, 45, .inl z_m)), (a_z_refused, .inl (cI, 7, .inl z_refused))] H := hP
  refine lv_istore_n (lv' := [(2, .int r9), (0, .ref a_z), (1, .int p0)]) hx hb dX5_shipThen_7 rfl hl (by decide) rfl (fun ls hl => ?_)
  refine lv_iload_n hx hb dX5_shipThen_8 rfl (lv_at hl 0 rfl) ?_
  refine lv_if_eq (tgt := 18) hx hb dX5_shipThen_9 (by decide) (fun hc11 => ?_) (fun hc11 => ?_)
  · have h := it_p hc11 h
    refine lv_aload_n hx hb dX5_shipThen_18 rfl (lv_at hl 1 rfl) ?_
    refine lv_iload_n hx hb dX5_shipThen_19 rfl (lv_at hl 2 rfl) ?_
    obtain ⟨z_m_12, hk13, h⟩ := bd1_e h
    refine cV_v (rest := []) F (kX5_takes l D cI cJ H.size g a_z a_z_s a_z_m a_z_image a_z_was a_z_letters a_z_row a_z_refused a_z_numbers z_hasImage z_letterMany z_rowMany z_reading z_seed z_s z_m p0 z_m_12 hk13) (cwV 1 hts gX5_shipThen_X5_takes rfl rfl rfl eVX5_takes ⟨Nat.le_of_ble_eq_true rfl, Nat.le_of_ble_eq_true rfl⟩) [0, 1, 2] hP hS (by decide) rfl rfl 0 rfl rfl rfl hl.1 (Nat.le_of_ble_eq_true rfl) ⟨Nat.le_refl _, Nat.le_refl _⟩ rfl dX5_shipThen_20 (fun H locs hP hS => ?_)
    have hP : WD D A [(a_z, .inr (5, [.ref a_z_s, .ref a_z_m, .ref a_z_image, .ref a_z_was, .int z_hasImage, .ref a_z_letters, .ref a_z_row, .ref a_z_refused, .int z_letterMany, .int z_rowMany, .int z_reading, .ref a_z_numbers, .int z_seed])), (a_z_s, .inl (cI, 45, .inl z_s)), (a_z_m, .inl (cI, 45, .inl z_m_12)), (a_z_refused, .inl (cI, 7, .inl z_refused))] H := hP
    refine lv_aload_n hx hb dX5_shipThen_23 rfl (lv_at hl 1 rfl) ?_
    refine gt_X5_13 F iX5 (List.mem_cons_of_mem _ (List.mem_append_left _ (List.mem_append_left _ (List.mem_of_getElem? (i := 0) rfl)))) hP 0 rfl dX5_shipThen_24 ?_
    refine lv_iconst (v := 3) hx hb dX5_shipThen_27 (by decide) ?_
    refine r_ia F hP 2 rfl (j := 3) rfl (by decide) dX5_shipThen_28 ?_
    exact hret 29 H locs ls (z_m_12 3) z_m_12 z_refused h rfl dX5_shipThen_29 hP hS
  · have h := it_n hc11 h
    refine lv_aload_n hx hb dX5_shipThen_12 rfl (lv_at hl 1 rfl) ?_
    refine lv_iload_n hx hb dX5_shipThen_13 rfl (lv_at hl 0 rfl) ?_
    obtain ⟨r14, z_refused_15, hk16, h⟩ := bd2_e h
    refine cV_i (rest := []) F (kX5_no l D cI cJ H.size g a_z a_z_s a_z_m a_z_image a_z_was a_z_letters a_z_row a_z_refused a_z_numbers z_hasImage z_letterMany z_rowMany z_reading z_seed z_refused r9 r14 z_refused_15 hk16) (cwV 1 hts gX5_shipThen_X5_no rfl rfl rfl eVX5_no ⟨Nat.le_of_ble_eq_true rfl, Nat.le_of_ble_eq_true rfl⟩) [0, 3] hP hS (by decide) rfl rfl 0 rfl rfl rfl hl.1 (Nat.le_of_ble_eq_true rfl) ⟨Nat.le_refl _, Nat.le_refl _⟩ rfl dX5_shipThen_14 (fun H locs hP hS => ?_)
    have hP : WD D A [(a_z, .inr (5, [.ref a_z_s, .ref a_z_m, .ref a_z_image, .ref a_z_was, .int z_hasImage, .ref a_z_letters, .ref a_z_row, .ref a_z_refused, .int z_letterMany, .int z_rowMany, .int z_reading, .ref a_z_numbers, .int z_seed])), (a_z_s, .inl (cI, 45, .inl z_s)), (a_z_m, .inl (cI, 45, .inl z_m)), (a_z_refused, .inl (cI, 7, .inl z_refused_15))] H := hP
    exact hret 17 H locs ls r14 z_m z_refused_15 h rfl dX5_shipThen_17 hP hS
theorem eSX5_needleThen : yX5_needleThen.cls ≠ "java/lang/invoke/MethodHandle" ∧ yX5_needleThen.cls ≠ "java/lang/invoke/VarHandle" ∧ (parseMethodDescriptor yX5_needleThen.desc).map (fun d => d.parameters.length) = some 1 := by decide +kernel
theorem eVX5_needleThen : yX5_needleThen.cls = RX5 ∧ yX5_needleThen.cls ≠ "java/lang/invoke/MethodHandle" ∧ yX5_needleThen.cls ≠ "java/lang/invoke/VarHandle" ∧ (parseMethodDescriptor yX5_needleThen.desc).map (fun d => d.parameters.length) = some 1 := ⟨rfl, eSX5_needleThen⟩
abbrev rmX5_needleThen : Room := { frames := 8, cells := 0, slots := 0, locals := 178 }
def fX5_needleThen (g : Nat) (p0 : Int32) (z_s : Nat → Int32) (z_m : Nat → Int32) (z_refused : Nat → Int32) : Option (Int32 × (Nat → Int32) × (Nat → Int32)) := bd1 (fX5_wrongBy g p0 0 60) fun r11 => (if r11 = 0 then (bd1 (fX5_takes g p0 z_s z_m) fun z_m_14 => (bd1 (fX5_needleIn g (-9) z_m_14) fun r16 => (some (r16, z_m_14, z_refused)))) else (bd2 (fX5_no g r11 z_refused) fun r18 z_refused_19 => (some (r18, z_m, z_refused_19))))
set_option maxHeartbeats 4000000 in
set_option maxRecDepth 100000 in
theorem kX5_needleThen (l : Launch) (D : va_G) (cI cJ : ClassId) (sz g : Nat) (a_z a_z_s a_z_m a_z_image a_z_was a_z_letters a_z_row a_z_refused a_z_numbers : Nat) (z_hasImage : Int32) (z_letterMany : Int32) (z_rowMany : Int32) (z_reading : Int32) (z_seed : Int32) (z_s : Nat → Int32) (z_m : Nat → Int32) (z_refused : Nat → Int32) (p0 : Int32) (r : Int32) (n_z_m : Nat → Int32) (n_z_refused : Nat → Int32) (hf : fX5_needleThen g p0 z_s z_m z_refused = some (r, n_z_m, n_z_refused)) : Met l yX5_needleThen wsX5_needleThen rmX5_needleThen (va_Pc [.ref a_z, .int p0] (sPc D (tyL cI cJ) [(a_z, .inr (5, [.ref a_z_s, .ref a_z_m, .ref a_z_image, .ref a_z_was, .int z_hasImage, .ref a_z_letters, .ref a_z_row, .ref a_z_refused, .int z_letterMany, .int z_rowMany, .int z_reading, .ref a_z_numbers, .int z_seed])), (a_z_s, .inl (cI, 45, .inl z_s)), (a_z_m, .inl (cI, 45, .inl z_m)), (a_z_refused, .inl (cI, 7, .inl z_refused))] sz)) (qI D (tyL cI cJ) [(a_z, .inr (5, [.ref a_z_s, .ref a_z_m, .ref a_z_image, .ref a_z_was, .int z_hasImage, .ref a_z_letters, .ref a_z_row, .ref a_z_refused, .int z_letterMany, .int z_rowMany, .int z_reading, .ref a_z_numbers, .int z_seed])), (a_z_s, .inl (cI, 45, .inl z_s)), (a_z_m, .inl (cI, 45, .inl z_m)), (a_z_refused, .inl (cI, 7, .inl z_refused))] sz [(a_z, .inr (5, [.ref a_z_s, .ref a_z_m, .ref a_z_image, .ref a_z_was, .int z_hasImage, .ref a_z_letters, .ref a_z_row, .ref a_z_refused, .int z_letterMany, .int z_rowMany, .int z_reading, .ref a_z_numbers, .int z_seed])), (a_z_s, .inl (cI, 45, .inl z_s)), (a_z_m, .inl (cI, 45, .inl n_z_m)), (a_z_refused, .inl (cI, 7, .inl n_z_refused))] r) 0 0 (va_A [(a_z, .inr (5, [.ref a_z_s, .ref a_z_m, .ref a_z_image, .ref a_z_was, .int z_hasImage, .ref a_z_letters, .ref a_z_row, .ref a_z_refused, .int z_letterMany, .int z_rowMany, .int z_reading, .ref a_z_numbers, .int z_seed])), (a_z_s, .inl (cI, 45, .inl z_s)), (a_z_m, .inl (cI, 45, .inl z_m)), (a_z_refused, .inl (cI, 7, .inl z_refused))] sz) := by
  refine st_i (cc := cX5_needleThen) (maxL := 3) (by decide) rfl (Nat.le_of_ble_eq_true rfl) ?_
  intro p e s m args below meth c A Q F hret0 H locs hP hS ls hl
  have F : Cx p s m args c cX5_needleThen 3 wsX5_needleThen RX5 D (tyL cI cJ) A := F
  have hx := F.1.1
  have hb := F.1.2.1
  have hown := F.1.2.2.2.1
  have hts := F.1.2.2.2.2
  have iX5 : ∀ w ∈ wsX50, w ∈ wsX5_needleThen := fun w h => (List.mem_cons_of_mem _ (List.mem_append_right _ h))
  have hret : ∀ (pc : Nat) (H : Heap) (locs : List Loc) (ls : Array Slot) (r' : Int32) (m_z_m : Nat → Int32) (m_z_refused : Nat → Int32), some (r', m_z_m, m_z_refused) = some (r, n_z_m, n_z_refused) → narrow .int (.int r') = .int r' → decode cX5_needleThen pc = .ok (.ireturn, 1) → WD D A [(a_z, .inr (5, [.ref a_z_s, .ref a_z_m, .ref a_z_image, .ref a_z_was, .int z_hasImage, .ref a_z_letters, .ref a_z_row, .ref a_z_refused, .int z_letterMany, .int z_rowMany, .int z_reading, .ref a_z_numbers, .int z_seed])), (a_z_s, .inl (cI, 45, .inl z_s)), (a_z_m, .inl (cI, 45, .inl m_z_m)), (a_z_refused, .inl (cI, 7, .inl m_z_refused))] H → va_S A s.heap H locs → W p l e rmX5_needleThen s m args below meth c H locs 0 0 Q (F0 m pc ls [.int r']) := by
    intro pc H locs ls r' m_z_m m_z_refused h hn hd hP hS
    cases h
    exact hret0 pc H locs ls hn hd hP hS
  have hl : lv_has ls 3 [(0, .ref a_z), (1, .int p0)] := hl
  have h := hf
  unfold fX5_needleThen at h
  refine lv_iload_n hx hb dX5_needleThen_0 rfl (lv_at hl 1 rfl) ?_
  refine lv_iconst (v := 0) hx hb dX5_needleThen_1 (by decide) ?_
  refine lv_bipush (v := 60) hx hb dX5_needleThen_2 (by decide) ?_
  obtain ⟨r11, hk12, h⟩ := bd1_e h
  refine cS_i (rest := []) F (kX5_wrongBy l D cI cJ H.size g p0 0 60 r11 hk12) (va_cwS 3 hts gX5_needleThen_X5_wrongBy rfl rfl rfl eSX5_wrongBy ⟨Nat.le_of_ble_eq_true rfl, Nat.le_of_ble_eq_true rfl⟩) [] hP hS (by decide) rfl rfl rfl hl.1 (Nat.le_of_ble_eq_true rfl) ⟨Nat.le_refl _, Nat.le_refl _⟩ rfl dX5_needleThen_4 (fun H locs hP hS => ?_)
  have hP : WD D A [(a_z, .inr (5, [.ref a_z_s, .ref a_z_m, .ref a_z_image, .ref a_z_was, .int z_hasImage, .ref a_z_letters, .ref a_z_row, .ref a_z_refused, .int z_letterMany, .int z_rowMany, .int z_reading, .ref a_z_numbers, .int z_seed])), (a_z_s, .inl (cI, 45, .inl z_s)), (a_z_m, .inl (cI, 45, .inl z_m)), (a_z_refused, .inl (cI, 7, .inl z_refused))] H := hP
  refine lv_istore_n (lv' := [(2, .int r11), (0, .ref a_z), (1, .int p0)]) hx hb dX5_needleThen_7 rfl hl (by decide) rfl (fun ls hl => ?_)
  refine lv_iload_n hx hb dX5_needleThen_8 rfl (lv_at hl 0 rfl) ?_
  refine lv_if_eq (tgt := 18) hx hb dX5_needleThen_9 (by decide) (fun hc13 => ?_) (fun hc13 => ?_)
  · have h := it_p hc13 h
    refine lv_aload_n hx hb dX5_needleThen_18 rfl (lv_at hl 1 rfl) ?_
    refine lv_iload_n hx hb dX5_needleThen_19 rfl (lv_at hl 2 rfl) ?_
    obtain ⟨z_m_14, hk15, h⟩ := bd1_e h
    refine cV_v (rest := []) F (kX5_takes l D cI cJ H.size g a_z a_z_s a_z_m a_z_image a_z_was a_z_letters a_z_row a_z_refused a_z_numbers z_hasImage z_letterMany z_rowMany z_reading z_seed z_s z_m p0 z_m_14 hk15) (cwV 1 hts gX5_needleThen_X5_takes rfl rfl rfl eVX5_takes ⟨Nat.le_of_ble_eq_true rfl, Nat.le_of_ble_eq_true rfl⟩) [0, 1, 2] hP hS (by decide) rfl rfl 0 rfl rfl rfl hl.1 (Nat.le_of_ble_eq_true rfl) ⟨Nat.le_refl _, Nat.le_refl _⟩ rfl dX5_needleThen_20 (fun H locs hP hS => ?_)
    have hP : WD D A [(a_z, .inr (5, [.ref a_z_s, .ref a_z_m, .ref a_z_image, .ref a_z_was, .int z_hasImage, .ref a_z_letters, .ref a_z_row, .ref a_z_refused, .int z_letterMany, .int z_rowMany, .int z_reading, .ref a_z_numbers, .int z_seed])), (a_z_s, .inl (cI, 45, .inl z_s)), (a_z_m, .inl (cI, 45, .inl z_m_14)), (a_z_refused, .inl (cI, 7, .inl z_refused))] H := hP
    refine lv_aload_n hx hb dX5_needleThen_23 rfl (lv_at hl 1 rfl) ?_
    refine gt_X5_13 F iX5 (List.mem_cons_of_mem _ (List.mem_append_left _ (List.mem_append_left _ (List.mem_of_getElem? (i := 0) rfl)))) hP 0 rfl dX5_needleThen_24 ?_
    refine lv_bipush (v := (-9)) hx hb dX5_needleThen_27 (by decide) ?_
    obtain ⟨r16, hk17, h⟩ := bd1_e h
    refine cS_i (rest := []) F (kX5_needleIn l D cI cJ H.size g a_z_m z_m_14 (-9) r16 hk17) (va_cwS 2 hts gX5_needleThen_X5_needleIn rfl rfl rfl eSX5_needleIn ⟨Nat.le_of_ble_eq_true rfl, Nat.le_of_ble_eq_true rfl⟩) [2] hP hS (by decide) rfl rfl rfl hl.1 (Nat.le_of_ble_eq_true rfl) ⟨Nat.le_refl _, Nat.le_refl _⟩ rfl dX5_needleThen_29 (fun H locs hP hS => ?_)
    have hP : WD D A [(a_z, .inr (5, [.ref a_z_s, .ref a_z_m, .ref a_z_image, .ref a_z_was, .int z_hasImage, .ref a_z_letters, .ref a_z_row, .ref a_z_refused, .int z_letterMany, .int z_rowMany, .int z_reading, .ref a_z_numbers, .int z_seed])), (a_z_s, .inl (cI, 45, .inl z_s)), (a_z_m, .inl (cI, 45, .inl z_m_14)), (a_z_refused, .inl (cI, 7, .inl z_refused))] H := hP
    exact hret 32 H locs ls r16 z_m_14 z_refused h rfl dX5_needleThen_32 hP hS
  · have h := it_n hc13 h
    refine lv_aload_n hx hb dX5_needleThen_12 rfl (lv_at hl 1 rfl) ?_
    refine lv_iload_n hx hb dX5_needleThen_13 rfl (lv_at hl 0 rfl) ?_
    obtain ⟨r18, z_refused_19, hk20, h⟩ := bd2_e h
    refine cV_i (rest := []) F (kX5_no l D cI cJ H.size g a_z a_z_s a_z_m a_z_image a_z_was a_z_letters a_z_row a_z_refused a_z_numbers z_hasImage z_letterMany z_rowMany z_reading z_seed z_refused r11 r18 z_refused_19 hk20) (cwV 1 hts gX5_needleThen_X5_no rfl rfl rfl eVX5_no ⟨Nat.le_of_ble_eq_true rfl, Nat.le_of_ble_eq_true rfl⟩) [0, 3] hP hS (by decide) rfl rfl 0 rfl rfl rfl hl.1 (Nat.le_of_ble_eq_true rfl) ⟨Nat.le_refl _, Nat.le_refl _⟩ rfl dX5_needleThen_14 (fun H locs hP hS => ?_)
    have hP : WD D A [(a_z, .inr (5, [.ref a_z_s, .ref a_z_m, .ref a_z_image, .ref a_z_was, .int z_hasImage, .ref a_z_letters, .ref a_z_row, .ref a_z_refused, .int z_letterMany, .int z_rowMany, .int z_reading, .ref a_z_numbers, .int z_seed])), (a_z_s, .inl (cI, 45, .inl z_s)), (a_z_m, .inl (cI, 45, .inl z_m)), (a_z_refused, .inl (cI, 7, .inl z_refused_19))] H := hP
    exact hret 17 H locs ls r18 z_m z_refused_19 h rfl dX5_needleThen_17 hP hS
theorem eSX5_seaThen : yX5_seaThen.cls ≠ "java/lang/invoke/MethodHandle" ∧ yX5_seaThen.cls ≠ "java/lang/invoke/VarHandle" ∧ (parseMethodDescriptor yX5_seaThen.desc).map (fun d => d.parameters.length) = some 2 := by decide +kernel
theorem eVX5_seaThen : yX5_seaThen.cls = RX5 ∧ yX5_seaThen.cls ≠ "java/lang/invoke/MethodHandle" ∧ yX5_seaThen.cls ≠ "java/lang/invoke/VarHandle" ∧ (parseMethodDescriptor yX5_seaThen.desc).map (fun d => d.parameters.length) = some 2 := ⟨rfl, eSX5_seaThen⟩
abbrev rmX5_seaThen : Room := { frames := 8, cells := 0, slots := 0, locals := 178 }
def fX5_seaThen (g : Nat) (p0 : Int32) (p1 : Int32) (z_s : Nat → Int32) (z_m : Nat → Int32) (z_refused : Nat → Int32) : Option (Int32 × (Nat → Int32) × (Nat → Int32)) := bd1 (fX5_isHand g p0 z_s) fun r24 => (if r24 = 0 then (if ((-1) : Int32) = 0 then (bd1 (fX5_takes g p1 z_s z_m) fun z_m_28 => (bd1 (fX5_of g p0 3) fun r30 => (gd (inB r30 45) (some (z_m_28 r30.toNatClampNeg, z_m_28, z_refused))))) else (bd2 (fX5_no g (-1) z_refused) fun r33 z_refused_34 => (some (r33, z_m, z_refused_34)))) else (bd1 (fX5_wrongBy g p1 0 60) fun r36 => (if r36 = 0 then (bd1 (fX5_takes g p1 z_s z_m) fun z_m_39 => (bd1 (fX5_of g p0 3) fun r41 => (gd (inB r41 45) (some (z_m_39 r41.toNatClampNeg, z_m_39, z_refused))))) else (bd2 (fX5_no g r36 z_refused) fun r44 z_refused_45 => (some (r44, z_m, z_refused_45))))))
set_option maxHeartbeats 4000000 in
set_option maxRecDepth 100000 in
theorem kX5_seaThen (l : Launch) (D : va_G) (cI cJ : ClassId) (sz g : Nat) (a_z a_z_s a_z_m a_z_image a_z_was a_z_letters a_z_row a_z_refused a_z_numbers : Nat) (z_hasImage : Int32) (z_letterMany : Int32) (z_rowMany : Int32) (z_reading : Int32) (z_seed : Int32) (z_s : Nat → Int32) (z_m : Nat → Int32) (z_refused : Nat → Int32) (p0 : Int32) (p1 : Int32) (r : Int32) (n_z_m : Nat → Int32) (n_z_refused : Nat → Int32) (hf : fX5_seaThen g p0 p1 z_s z_m z_refused = some (r, n_z_m, n_z_refused)) : Met l yX5_seaThen wsX5_seaThen rmX5_seaThen (va_Pc [.ref a_z, .int p0, .int p1] (sPc D (tyL cI cJ) [(a_z, .inr (5, [.ref a_z_s, .ref a_z_m, .ref a_z_image, .ref a_z_was, .int z_hasImage, .ref a_z_letters, .ref a_z_row, .ref a_z_refused, .int z_letterMany, .int z_rowMany, .int z_reading, .ref a_z_numbers, .int z_seed])), (a_z_s, .inl (cI, 45, .inl z_s)), (a_z_m, .inl (cI, 45, .inl z_m)), (a_z_refused, .inl (cI, 7, .inl z_refused))] sz)) (qI D (tyL cI cJ) [(a_z, .inr (5, [.ref a_z_s, .ref a_z_m, .ref a_z_image, .ref a_z_was, .int z_hasImage, .ref a_z_letters, .ref a_z_row, .ref a_z_refused, .int z_letterMany, .int z_rowMany, .int z_reading, .ref a_z_numbers, .int z_seed])), (a_z_s, .inl (cI, 45, .inl z_s)), (a_z_m, .inl (cI, 45, .inl z_m)), (a_z_refused, .inl (cI, 7, .inl z_refused))] sz [(a_z, .inr (5, [.ref a_z_s, .ref a_z_m, .ref a_z_image, .ref a_z_was, .int z_hasImage, .ref a_z_letters, .ref a_z_row, .ref a_z_refused, .int z_letterMany, .int z_rowMany, .int z_reading, .ref a_z_numbers, .int z_seed])), (a_z_s, .inl (cI, 45, .inl z_s)), (a_z_m, .inl (cI, 45, .inl n_z_m)), (a_z_refused, .inl (cI, 7, .inl n_z_refused))] r) 0 0 (va_A [(a_z, .inr (5, [.ref a_z_s, .ref a_z_m, .ref a_z_image, .ref a_z_was, .int z_hasImage, .ref a_z_letters, .ref a_z_row, .ref a_z_refused, .int z_letterMany, .int z_rowMany, .int z_reading, .ref a_z_numbers, .int z_seed])), (a_z_s, .inl (cI, 45, .inl z_s)), (a_z_m, .inl (cI, 45, .inl z_m)), (a_z_refused, .inl (cI, 7, .inl z_refused))] sz) := by
  refine st_i (cc := cX5_seaThen) (maxL := 4) (by decide) rfl (Nat.le_of_ble_eq_true rfl) ?_
  intro p e s m args below meth c A Q F hret0 H locs hP hS ls hl
  have F : Cx p s m args c cX5_seaThen 4 wsX5_seaThen RX5 D (tyL cI cJ) A := F
  have hx := F.1.1
  have hb := F.1.2.1
  have hown := F.1.2.2.2.1
  have hts := F.1.2.2.2.2
  have iX5 : ∀ w ∈ wsX50, w ∈ wsX5_seaThen := fun w h => (List.mem_cons_of_mem _ (List.mem_append_right _ h))
  have hret : ∀ (pc : Nat) (H : Heap) (locs : List Loc) (ls : Array Slot) (r' : Int32) (m_z_m : Nat → Int32) (m_z_refused : Nat → Int32), some (r', m_z_m, m_z_refused) = some (r, n_z_m, n_z_refused) → narrow .int (.int r') = .int r' → decode cX5_seaThen pc = .ok (.ireturn, 1) → WD D A [(a_z, .inr (5, [.ref a_z_s, .ref a_z_m, .ref a_z_image, .ref a_z_was, .int z_hasImage, .ref a_z_letters, .ref a_z_row, .ref a_z_refused, .int z_letterMany, .int z_rowMany, .int z_reading, .ref a_z_numbers, .int z_seed])), (a_z_s, .inl (cI, 45, .inl z_s)), (a_z_m, .inl (cI, 45, .inl m_z_m)), (a_z_refused, .inl (cI, 7, .inl m_z_refused))] H → va_S A s.heap H locs → W p l e rmX5_seaThen s m args below meth c H locs 0 0 Q (F0 m pc ls [.int r']) := by
    intro pc H locs ls r' m_z_m m_z_refused h hn hd hP hS
    cases h
    exact hret0 pc H locs ls hn hd hP hS
  have hl : lv_has ls 4 [(0, .ref a_z), (1, .int p0), (2, .int p1)] := hl
  have h := hf
  unfold fX5_seaThen at h
  refine lv_aload_n hx hb dX5_seaThen_0 rfl (lv_at hl 0 rfl) ?_
  refine lv_iload_n hx hb dX5_seaThen_1 rfl (lv_at hl 1 rfl) ?_
  obtain ⟨r24, hk25, h⟩ := bd1_e h
  refine cV_i (rest := []) F (kX5_isHand l D cI cJ H.size g a_z a_z_s a_z_m a_z_image a_z_was a_z_letters a_z_row a_z_refused a_z_numbers z_hasImage z_letterMany z_rowMany z_reading z_seed z_s p0 r24 hk25) (cwV 1 hts gX5_seaThen_X5_isHand rfl rfl rfl eVX5_isHand ⟨Nat.le_of_ble_eq_true rfl, Nat.le_of_ble_eq_true rfl⟩) [0, 1] hP hS (by decide) rfl rfl 0 rfl rfl rfl hl.1 (Nat.le_of_ble_eq_true rfl) ⟨Nat.le_refl _, Nat.le_refl _⟩ rfl dX5_seaThen_2 (fun H locs hP hS => ?_)
  have hP : WD D A [(a_z, .inr (5, [.ref a_z_s, .ref a_z_m, .ref a_z_image, .ref a_z_was, .int z_hasImage, .ref a_z_letters, .ref a_z_row, .ref a_z_refused, .int z_letterMany, .int z_rowMany, .int z_reading, .ref a_z_numbers, .int z_seed])), (a_z_s, .inl (cI, 45, .inl z_s)), (a_z_m, .inl (cI, 45, .inl z_m)), (a_z_refused, .inl (cI, 7, .inl z_refused))] H := hP
  refine lv_if_eq (tgt := 18) hx hb dX5_seaThen_5 (by decide) (fun hc26 => ?_) (fun hc26 => ?_)
  · have h := it_p hc26 h
    refine lv_iconst (v := (-1)) hx hb dX5_seaThen_18 (by decide) ?_
    refine lv_istore_n (lv' := [(3, .int (-1)), (0, .ref a_z), (1, .int p0), (2, .int p1)]) hx hb dX5_seaThen_19 rfl hl (by decide) rfl (fun ls hl => ?_)
    refine lv_iload_n hx hb dX5_seaThen_20 rfl (lv_at hl 0 rfl) ?_
    refine lv_if_eq (tgt := 30) hx hb dX5_seaThen_21 (by decide) (fun hc27 => ?_) (fun hc27 => ?_)
    · have h := it_p hc27 h
      refine lv_aload_n hx hb dX5_seaThen_30 rfl (lv_at hl 1 rfl) ?_
      refine lv_iload_n hx hb dX5_seaThen_31 rfl (lv_at hl 3 rfl) ?_
      obtain ⟨z_m_28, hk29, h⟩ := bd1_e h
      refine cV_v (rest := []) F (kX5_takes l D cI cJ H.size g a_z a_z_s a_z_m a_z_image a_z_was a_z_letters a_z_row a_z_refused a_z_numbers z_hasImage z_letterMany z_rowMany z_reading z_seed z_s z_m p1 z_m_28 hk29) (cwV 1 hts gX5_seaThen_X5_takes rfl rfl rfl eVX5_takes ⟨Nat.le_of_ble_eq_true rfl, Nat.le_of_ble_eq_true rfl⟩) [0, 1, 2] hP hS (by decide) rfl rfl 0 rfl rfl rfl hl.1 (Nat.le_of_ble_eq_true rfl) ⟨Nat.le_refl _, Nat.le_refl _⟩ rfl dX5_seaThen_32 (fun H locs hP hS => ?_)
      have hP : WD D A [(a_z, .inr (5, [.ref a_z_s, .ref a_z_m, .ref a_z_image, .ref a_z_was, .int z_hasImage, .ref a_z_letters, .ref a_z_row, .ref a_z_refused, .int z_letterMany, .int z_rowMany, .int z_reading, .ref a_z_numbers, .int z_seed])), (a_z_s, .inl (cI, 45, .inl z_s)), (a_z_m, .inl (cI, 45, .inl z_m_28)), (a_z_refused, .inl (cI, 7, .inl z_refused))] H := hP
      refine lv_aload_n hx hb dX5_seaThen_35 rfl (lv_at hl 1 rfl) ?_
      refine gt_X5_13 F iX5 (List.mem_cons_of_mem _ (List.mem_append_left _ (List.mem_append_left _ (List.mem_of_getElem? (i := 0) rfl)))) hP 0 rfl dX5_seaThen_36 ?_
      refine lv_iload_n hx hb dX5_seaThen_39 rfl (lv_at hl 2 rfl) ?_
      refine lv_iconst (v := 3) hx hb dX5_seaThen_40 (by decide) ?_
      obtain ⟨r30, hk31, h⟩ := bd1_e h
      refine cS_i (rest := [.ref a_z_m]) F (kX5_of l D cI cJ H.size g p0 3 r30 hk31) (va_cwS 2 hts gX5_seaThen_X5_of rfl rfl rfl eSX5_of ⟨Nat.le_of_ble_eq_true rfl, Nat.le_of_ble_eq_true rfl⟩) [] hP hS (by decide) rfl rfl rfl hl.1 (Nat.le_of_ble_eq_true rfl) ⟨Nat.le_refl _, Nat.le_refl _⟩ rfl dX5_seaThen_41 (fun H locs hP hS => ?_)
      have hP : WD D A [(a_z, .inr (5, [.ref a_z_s, .ref a_z_m, .ref a_z_image, .ref a_z_was, .int z_hasImage, .ref a_z_letters, .ref a_z_row, .ref a_z_refused, .int z_letterMany, .int z_rowMany, .int z_reading, .ref a_z_numbers, .int z_seed])), (a_z_s, .inl (cI, 45, .inl z_s)), (a_z_m, .inl (cI, 45, .inl z_m_28)), (a_z_refused, .inl (cI, 7, .inl z_refused))] H := hP
      obtain ⟨hg32, h⟩ := gd_e h
      refine r_ia F hP 2 rfl rfl hg32 dX5_seaThen_44 ?_
      exact hret 45 H locs ls (z_m_28 r30.toNatClampNeg) z_m_28 z_refused h rfl dX5_seaThen_45 hP hS
    · have h := it_n hc27 h
      refine lv_aload_n hx hb dX5_seaThen_24 rfl (lv_at hl 1 rfl) ?_
      refine lv_iload_n hx hb dX5_seaThen_25 rfl (lv_at hl 0 rfl) ?_
      obtain ⟨r33, z_refused_34, hk35, h⟩ := bd2_e h
      refine cV_i (rest := []) F (kX5_no l D cI cJ H.size g a_z a_z_s a_z_m a_z_image a_z_was a_z_letters a_z_row a_z_refused a_z_numbers z_hasImage z_letterMany z_rowMany z_reading z_seed z_refused (-1) r33 z_refused_34 hk35) (cwV 1 hts gX5_seaThen_X5_no rfl rfl rfl eVX5_no ⟨Nat.le_of_ble_eq_true rfl, Nat.le_of_ble_eq_true rfl⟩) [0, 3] hP hS (by decide) rfl rfl 0 rfl rfl rfl hl.1 (Nat.le_of_ble_eq_true rfl) ⟨Nat.le_refl _, Nat.le_refl _⟩ rfl dX5_seaThen_26 (fun H locs hP hS => ?_)
      have hP : WD D A [(a_z, .inr (5, [.ref a_z_s, .ref a_z_m, .ref a_z_image, .ref a_z_was, .int z_hasImage, .ref a_z_letters, .ref a_z_row, .ref a_z_refused, .int z_letterMany, .int z_rowMany, .int z_reading, .ref a_z_numbers, .int z_seed])), (a_z_s, .inl (cI, 45, .inl z_s)), (a_z_m, .inl (cI, 45, .inl z_m)), (a_z_refused, .inl (cI, 7, .inl z_refused_34))] H := hP
      exact hret 29 H locs ls r33 z_m z_refused_34 h rfl dX5_seaThen_29 hP hS
  · have h := it_n hc26 h
    refine lv_iload_n hx hb dX5_seaThen_8 rfl (lv_at hl 2 rfl) ?_
    refine lv_iconst (v := 0) hx hb dX5_seaThen_9 (by decide) ?_
    refine lv_bipush (v := 60) hx hb dX5_seaThen_10 (by decide) ?_
    obtain ⟨r36, hk37, h⟩ := bd1_e h
    refine cS_i (rest := []) F (kX5_wrongBy l D cI cJ H.size g p1 0 60 r36 hk37) (va_cwS 3 hts gX5_seaThen_X5_wrongBy rfl rfl rfl eSX5_wrongBy ⟨Nat.le_of_ble_eq_true rfl, Nat.le_of_ble_eq_true rfl⟩) [] hP hS (by decide) rfl rfl rfl hl.1 (Nat.le_of_ble_eq_true rfl) ⟨Nat.le_refl _, Nat.le_refl _⟩ rfl dX5_seaThen_12 (fun H locs hP hS => ?_)
    have hP : WD D A [(a_z, .inr (5, [.ref a_z_s, .ref a_z_m, .ref a_z_image, .ref a_z_was, .int z_hasImage, .ref a_z_letters, .ref a_z_row, .ref a_z_refused, .int z_letterMany, .int z_rowMany, .int z_reading, .ref a_z_numbers, .int z_seed])), (a_z_s, .inl (cI, 45, .inl z_s)), (a_z_m, .inl (cI, 45, .inl z_m)), (a_z_refused, .inl (cI, 7, .inl z_refused))] H := hP
    refine lv_goto (tgt := 19) hx hb dX5_seaThen_15 (by decide) ?_
    refine lv_istore_n (lv' := [(3, .int r36), (0, .ref a_z), (1, .int p0), (2, .int p1)]) hx hb dX5_seaThen_19 rfl hl (by decide) rfl (fun ls hl => ?_)
    refine lv_iload_n hx hb dX5_seaThen_20 rfl (lv_at hl 0 rfl) ?_
    refine lv_if_eq (tgt := 30) hx hb dX5_seaThen_21 (by decide) (fun hc38 => ?_) (fun hc38 => ?_)
    · have h := it_p hc38 h
      refine lv_aload_n hx hb dX5_seaThen_30 rfl (lv_at hl 1 rfl) ?_
      refine lv_iload_n hx hb dX5_seaThen_31 rfl (lv_at hl 3 rfl) ?_
      obtain ⟨z_m_39, hk40, h⟩ := bd1_e h
      refine cV_v (rest := []) F (kX5_takes l D cI cJ H.size g a_z a_z_s a_z_m a_z_image a_z_was a_z_letters a_z_row a_z_refused a_z_numbers z_hasImage z_letterMany z_rowMany z_reading z_seed z_s z_m p1 z_m_39 hk40) (cwV 1 hts gX5_seaThen_X5_takes rfl rfl rfl eVX5_takes ⟨Nat.le_of_ble_eq_true rfl, Nat.le_of_ble_eq_true rfl⟩) [0, 1, 2] hP hS (by decide) rfl rfl 0 rfl rfl rfl hl.1 (Nat.le_of_ble_eq_true rfl) ⟨Nat.le_refl _, Nat.le_refl _⟩ rfl dX5_seaThen_32 (fun H locs hP hS => ?_)
      have hP : WD D A [(a_z, .inr (5, [.ref a_z_s, .ref a_z_m, .ref a_z_image, .ref a_z_was, .int z_hasImage, .ref a_z_letters, .ref a_z_row, .ref a_z_refused, .int z_letterMany, .int z_rowMany, .int z_reading, .ref a_z_numbers, .int z_seed])), (a_z_s, .inl (cI, 45, .inl z_s)), (a_z_m, .inl (cI, 45, .inl z_m_39)), (a_z_refused, .inl (cI, 7, .inl z_refused))] H := hP
      refine lv_aload_n hx hb dX5_seaThen_35 rfl (lv_at hl 1 rfl) ?_
      refine gt_X5_13 F iX5 (List.mem_cons_of_mem _ (List.mem_append_left _ (List.mem_append_left _ (List.mem_of_getElem? (i := 0) rfl)))) hP 0 rfl dX5_seaThen_36 ?_
      refine lv_iload_n hx hb dX5_seaThen_39 rfl (lv_at hl 2 rfl) ?_
      refine lv_iconst (v := 3) hx hb dX5_seaThen_40 (by decide) ?_
      obtain ⟨r41, hk42, h⟩ := bd1_e h
      refine cS_i (rest := [.ref a_z_m]) F (kX5_of l D cI cJ H.size g p0 3 r41 hk42) (va_cwS 2 hts gX5_seaThen_X5_of rfl rfl rfl eSX5_of ⟨Nat.le_of_ble_eq_true rfl, Nat.le_of_ble_eq_true rfl⟩) [] hP hS (by decide) rfl rfl rfl hl.1 (Nat.le_of_ble_eq_true rfl) ⟨Nat.le_refl _, Nat.le_refl _⟩ rfl dX5_seaThen_41 (fun H locs hP hS => ?_)
      have hP : WD D A [(a_z, .inr (5, [.ref a_z_s, .ref a_z_m, .ref a_z_image, .ref a_z_was, .int z_hasImage, .ref a_z_letters, .ref a_z_row, .ref a_z_refused, .int z_letterMany, .int z_rowMany, .int z_reading, .ref a_z_numbers, .int z_seed])), (a_z_s, .inl (cI, 45, .inl z_s)), (a_z_m, .inl (cI, 45, .inl z_m_39)), (a_z_refused, .inl (cI, 7, .inl z_refused))] H := hP
      obtain ⟨hg43, h⟩ := gd_e h
      refine r_ia F hP 2 rfl rfl hg43 dX5_seaThen_44 ?_
      exact hret 45 H locs ls (z_m_39 r41.toNatClampNeg) z_m_39 z_refused h rfl dX5_seaThen_45 hP hS
    · have h := it_n hc38 h
      refine lv_aload_n hx hb dX5_seaThen_24 rfl (lv_at hl 1 rfl) ?_
      refine lv_iload_n hx hb dX5_seaThen_25 rfl (lv_at hl 0 rfl) ?_
      obtain ⟨r44, z_refused_45, hk46, h⟩ := bd2_e h
      refine cV_i (rest := []) F (kX5_no l D cI cJ H.size g a_z a_z_s a_z_m a_z_image a_z_was a_z_letters a_z_row a_z_refused a_z_numbers z_hasImage z_letterMany z_rowMany z_reading z_seed z_refused r36 r44 z_refused_45 hk46) (cwV 1 hts gX5_seaThen_X5_no rfl rfl rfl eVX5_no ⟨Nat.le_of_ble_eq_true rfl, Nat.le_of_ble_eq_true rfl⟩) [0, 3] hP hS (by decide) rfl rfl 0 rfl rfl rfl hl.1 (Nat.le_of_ble_eq_true rfl) ⟨Nat.le_refl _, Nat.le_refl _⟩ rfl dX5_seaThen_26 (fun H locs hP hS => ?_)
      have hP : WD D A [(a_z, .inr (5, [.ref a_z_s, .ref a_z_m, .ref a_z_image, .ref a_z_was, .int z_hasImage, .ref a_z_letters, .ref a_z_row, .ref a_z_refused, .int z_letterMany, .int z_rowMany, .int z_reading, .ref a_z_numbers, .int z_seed])), (a_z_s, .inl (cI, 45, .inl z_s)), (a_z_m, .inl (cI, 45, .inl z_m)), (a_z_refused, .inl (cI, 7, .inl z_refused_45))] H := hP
      exact hret 29 H locs ls r44 z_m z_refused_45 h rfl dX5_seaThen_29 hP hS
theorem eSX5_comesIn : yX5_comesIn.cls ≠ "java/lang/invoke/MethodHandle" ∧ yX5_comesIn.cls ≠ "java/lang/invoke/VarHandle" ∧ (parseMethodDescriptor yX5_comesIn.desc).map (fun d => d.parameters.length) = some 2 := by decide +kernel
theorem eVX5_comesIn : yX5_comesIn.cls = RX5 ∧ yX5_comesIn.cls ≠ "java/lang/invoke/MethodHandle" ∧ yX5_comesIn.cls ≠ "java/lang/invoke/VarHandle" ∧ (parseMethodDescriptor yX5_comesIn.desc).map (fun d => d.parameters.length) = some 2 := ⟨rfl, eSX5_comesIn⟩
abbrev rmX5_comesIn : Room := { frames := 6, cells := 0, slots := 0, locals := 135 }
def fX5_comesIn_L2_b (g : Nat) (x1_L2 : Int32) (x2_L2 : Int32) (self : Int32 → (Nat → Int32) → Option (((Nat → Int32)) ⊕ (Int32 × (Nat → Int32)))) (x3_L2 : Int32) (z_m_L2 : Nat → Int32) : Option (((Nat → Int32)) ⊕ (Int32 × (Nat → Int32))) := if x2_L2 < x3_L2 then (some (.inl z_m_L2)) else (if (z_m_L2 3) = x1_L2 then (some (.inr (x3_L2, z_m_L2))) else (bd1 (fX5_day g 0 z_m_L2) fun z_m_4 => (self (x3_L2 + 1) z_m_4)))
def fX5_comesIn_L2 (g : Nat) (x1_L2 : Int32) (x2_L2 : Int32) (n : Nat) : Int32 → (Nat → Int32) → Option (((Nat → Int32)) ⊕ (Int32 × (Nat → Int32))) := lp (fX5_comesIn_L2_b g x1_L2 x2_L2) (fun _ _ => none) n
def fX5_comesIn (g : Nat) (p0 : Int32) (p1 : Int32) (z_m : Nat → Int32) : Option (Int32 × (Nat → Int32)) := bs1 (fX5_comesIn_L2 g p0 p1 g 0 z_m) (fun q => some q) fun t6 => (some ((-9), t6))
set_option maxHeartbeats 4000000 in
set_option maxRecDepth 100000 in
theorem kX5_comesIn (l : Launch) (D : va_G) (cI cJ : ClassId) (sz g : Nat) (a_z a_z_s a_z_m a_z_image a_z_was a_z_letters a_z_row a_z_refused a_z_numbers : Nat) (z_hasImage : Int32) (z_letterMany : Int32) (z_rowMany : Int32) (z_reading : Int32) (z_seed : Int32) (z_m : Nat → Int32) (p0 : Int32) (p1 : Int32) (r : Int32) (n_z_m : Nat → Int32) (hf : fX5_comesIn g p0 p1 z_m = some (r, n_z_m)) : Met l yX5_comesIn wsX5_comesIn rmX5_comesIn (va_Pc [.ref a_z, .int p0, .int p1] (sPc D (tyL cI cJ) [(a_z, .inr (5, [.ref a_z_s, .ref a_z_m, .ref a_z_image, .ref a_z_was, .int z_hasImage, .ref a_z_letters, .ref a_z_row, .ref a_z_refused, .int z_letterMany, .int z_rowMany, .int z_reading, .ref a_z_numbers, .int z_seed])), (a_z_m, .inl (cI, 45, .inl z_m))] sz)) (qI D (tyL cI cJ) [(a_z, .inr (5, [.ref a_z_s, .ref a_z_m, .ref a_z_image, .ref a_z_was, .int z_hasImage, .ref a_z_letters, .ref a_z_row, .ref a_z_refused, .int z_letterMany, .int z_rowMany, .int z_reading, .ref a_z_numbers, .int z_seed])), (a_z_m, .inl (cI, 45, .inl z_m))] sz [(a_z, .inr (5, [.ref a_z_s, .ref a_z_m, .ref a_z_image, .ref a_z_was, .int z_hasImage, .ref a_z_letters, .ref a_z_row, .ref a_z_refused, .int z_letterMany, .int z_rowMany, .int z_reading, .ref a_z_numbers, .int z_seed])), (a_z_m, .inl (cI, 45, .inl n_z_m))] r) 0 0 (va_A [(a_z, .inr (5, [.ref a_z_s, .ref a_z_m, .ref a_z_image, .ref a_z_was, .int z_hasImage, .ref a_z_letters, .ref a_z_row, .ref a_z_refused, .int z_letterMany, .int z_rowMany, .int z_reading, .ref a_z_numbers, .int z_seed])), (a_z_m, .inl (cI, 45, .inl z_m))] sz) := by
  refine st_i (cc := cX5_comesIn) (maxL := 4) (by decide) rfl (Nat.le_of_ble_eq_true rfl) ?_
  intro p e s m args below meth c A Q F hret0 H locs hP hS ls hl
  have F : Cx p s m args c cX5_comesIn 4 wsX5_comesIn RX5 D (tyL cI cJ) A := F
  have hx := F.1.1
  have hb := F.1.2.1
  have hown := F.1.2.2.2.1
  have hts := F.1.2.2.2.2
  have iX5 : ∀ w ∈ wsX50, w ∈ wsX5_comesIn := fun w h => (List.mem_cons_of_mem _ (List.mem_append_right _ h))
  have hret : ∀ (pc : Nat) (H : Heap) (locs : List Loc) (ls : Array Slot) (r' : Int32) (m_z_m : Nat → Int32), some (r', m_z_m) = some (r, n_z_m) → narrow .int (.int r') = .int r' → decode cX5_comesIn pc = .ok (.ireturn, 1) → WD D A [(a_z, .inr (5, [.ref a_z_s, .ref a_z_m, .ref a_z_image, .ref a_z_was, .int z_hasImage, .ref a_z_letters, .ref a_z_row, .ref a_z_refused, .int z_letterMany, .int z_rowMany, .int z_reading, .ref a_z_numbers, .int z_seed])), (a_z_m, .inl (cI, 45, .inl m_z_m))] H → va_S A s.heap H locs → W p l e rmX5_comesIn s m args below meth c H locs 0 0 Q (F0 m pc ls [.int r']) := by
    intro pc H locs ls r' m_z_m h hn hd hP hS
    cases h
    exact hret0 pc H locs ls hn hd hP hS
  have L2 : ∀ (x1_L2 : Int32) (x2_L2 : Int32) (n : Nat) (x3_L2 : Int32) (z_m_L2 : Nat → Int32) (x : ((Nat → Int32)) ⊕ (Int32 × (Nat → Int32))) (H : Heap) (locs : List Loc) (ls : Array Slot), fX5_comesIn_L2 g x1_L2 x2_L2 n x3_L2 z_m_L2 = some x → WD D A [(a_z, .inr (5, [.ref a_z_s, .ref a_z_m, .ref a_z_image, .ref a_z_was, .int z_hasImage, .ref a_z_letters, .ref a_z_row, .ref a_z_refused, .int z_letterMany, .int z_rowMany, .int z_reading, .ref a_z_numbers, .int z_seed])), (a_z_m, .inl (cI, 45, .inl z_m_L2))] H → va_S A s.heap H locs → lv_has ls 4 [(0, .ref a_z), (1, .int x1_L2), (2, .int x2_L2), (3, .int x3_L2)] → (∀ (tt0 : Nat → Int32), .inl tt0 = x → (∀ (H : Heap) (locs : List Loc) (ls : Array Slot), WD D A [(a_z, .inr (5, [.ref a_z_s, .ref a_z_m, .ref a_z_image, .ref a_z_was, .int z_hasImage, .ref a_z_letters, .ref a_z_row, .ref a_z_refused, .int z_letterMany, .int z_rowMany, .int z_reading, .ref a_z_numbers, .int z_seed])), (a_z_m, .inl (cI, 45, .inl tt0))] H → va_S A s.heap H locs → lv_has ls 4 [] → W p l e rmX5_comesIn s m args below meth c H locs 0 0 Q (F0 m 33 ls []))) → (∀ q : Int32 × (Nat → Int32), .inr q = x → some q = some (r, n_z_m)) → W p l e rmX5_comesIn s m args below meth c H locs 0 0 Q (F0 m 2 ls []) := by
    intro x1_L2 x2_L2 n
    induction n with
    | zero =>
      intro x3_L2 z_m_L2 x H locs ls h
      exact (no_some h).elim
    | succ n ih =>
      intro x3_L2 z_m_L2 x H locs ls h hP hS hl kE kR
      have h : fX5_comesIn_L2_b g x1_L2 x2_L2 (fX5_comesIn_L2 g x1_L2 x2_L2 n) x3_L2 z_m_L2 = some x := h
      unfold fX5_comesIn_L2_b at h
      refine lv_iload_n hx hb dX5_comesIn_2 rfl (lv_at hl 3 rfl) ?_
      refine lv_iload_n hx hb dX5_comesIn_3 rfl (lv_at hl 2 rfl) ?_
      refine lv_icmp_gt (tgt := 33) hx hb dX5_comesIn_4 (by decide) (fun hc2 => ?_) (fun hc2 => ?_)
      · have h := it_p hc2 h
        cases h
        exact kE _ rfl H locs ls hP hS (lv_sub hl [] rfl)
      · have h := it_n hc2 h
        refine lv_aload_n hx hb dX5_comesIn_7 rfl (lv_at hl 0 rfl) ?_
        refine gt_X5_13 F iX5 (List.mem_cons_of_mem _ (List.mem_append_left _ (List.mem_append_left _ (List.mem_of_getElem? (i := 0) rfl)))) hP 0 rfl dX5_comesIn_8 ?_
        refine lv_iconst (v := 3) hx hb dX5_comesIn_11 (by decide) ?_
        refine r_ia F hP 1 rfl (j := 3) rfl (by decide) dX5_comesIn_12 ?_
        refine lv_iload_n hx hb dX5_comesIn_13 rfl (lv_at hl 1 rfl) ?_
        refine lv_icmp_ne (tgt := 19) hx hb dX5_comesIn_14 (by decide) (fun hc3 => ?_) (fun hc3 => ?_)
        · have h := it_n hc3 h
          refine lv_aload_n hx hb dX5_comesIn_19 rfl (lv_at hl 0 rfl) ?_
          refine gt_X5_13 F iX5 (List.mem_cons_of_mem _ (List.mem_append_left _ (List.mem_append_left _ (List.mem_of_getElem? (i := 0) rfl)))) hP 0 rfl dX5_comesIn_20 ?_
          refine lv_iconst (v := 0) hx hb dX5_comesIn_23 (by decide) ?_
          obtain ⟨z_m_4, hk5, h⟩ := bd1_e h
          refine cS_v (rest := []) F (kX5_day l D cI cJ H.size g a_z_m z_m_L2 0 z_m_4 hk5) (va_cwS 2 hts gX5_comesIn_X5_day rfl rfl rfl eSX5_day ⟨Nat.le_of_ble_eq_true rfl, Nat.le_of_ble_eq_true rfl⟩) [1] hP hS (by decide) rfl rfl rfl hl.1 (Nat.le_of_ble_eq_true rfl) ⟨Nat.le_refl _, Nat.le_refl _⟩ rfl dX5_comesIn_24 (fun H locs hP hS => ?_)
          have hP : WD D A [(a_z, .inr (5, [.ref a_z_s, .ref a_z_m, .ref a_z_image, .ref a_z_was, .int z_hasImage, .ref a_z_letters, .ref a_z_row, .ref a_z_refused, .int z_letterMany, .int z_rowMany, .int z_reading, .ref a_z_numbers, .int z_seed])), (a_z_m, .inl (cI, 45, .inl z_m_4))] H := hP
          refine lv_iinc (v := x3_L2 + 1) (lv' := [(3, .int (x3_L2 + 1)), (0, .ref a_z), (1, .int x1_L2), (2, .int x2_L2)]) hx hb dX5_comesIn_27 hl (k := 3) rfl rfl (by decide) rfl (fun ls hl => ?_)
          refine lv_goto (tgt := 2) hx hb dX5_comesIn_30 (by decide) ?_
          exact ih (x3_L2 + 1) z_m_4 x H locs ls h hP hS (lv_sub hl [1, 2, 3, 0] rfl) kE kR
        · have h := it_p hc3 h
          refine lv_iload_n hx hb dX5_comesIn_17 rfl (lv_at hl 3 rfl) ?_
          have h := kR _ (Option.some.inj h)
          exact hret 18 H locs ls x3_L2 z_m_L2 h rfl dX5_comesIn_18 hP hS
  have hl : lv_has ls 4 [(0, .ref a_z), (1, .int p0), (2, .int p1)] := hl
  have h := hf
  unfold fX5_comesIn at h
  refine lv_iconst (v := 0) hx hb dX5_comesIn_0 (by decide) ?_
  refine lv_istore_n (lv' := [(3, .int 0), (0, .ref a_z), (1, .int p0), (2, .int p1)]) hx hb dX5_comesIn_1 rfl hl (by decide) rfl (fun ls hl => ?_)
  obtain ⟨x8, hk7, x8a, x8b⟩ := bs1_e h
  refine L2 p0 p1 g 0 z_m x8 H locs ls hk7 hP hS (lv_sub hl [1, 2, 3, 0] rfl) (fun t6 he9 H locs ls hP hS hl => ?_) (fun q he9 => (x8b q he9.symm))
  have h := x8a t6 he9.symm
  refine lv_bipush (v := (-9)) hx hb dX5_comesIn_33 (by decide) ?_
  exact hret 35 H locs ls (-9) t6 h rfl dX5_comesIn_35 hP hS
theorem eSX5_comesTo : yX5_comesTo.cls ≠ "java/lang/invoke/MethodHandle" ∧ yX5_comesTo.cls ≠ "java/lang/invoke/VarHandle" ∧ (parseMethodDescriptor yX5_comesTo.desc).map (fun d => d.parameters.length) = some 1 := by decide +kernel
theorem eVX5_comesTo : yX5_comesTo.cls = RX5 ∧ yX5_comesTo.cls ≠ "java/lang/invoke/MethodHandle" ∧ yX5_comesTo.cls ≠ "java/lang/invoke/VarHandle" ∧ (parseMethodDescriptor yX5_comesTo.desc).map (fun d => d.parameters.length) = some 1 := ⟨rfl, eSX5_comesTo⟩
abbrev rmX5_comesTo : Room := { frames := 7, cells := 0, slots := 0, locals := 158 }
def fX5_comesTo (g : Nat) (p0 : Int32) (z_s : Nat → Int32) (z_m : Nat → Int32) : Option (Int32 × (Nat → Int32)) := bd1 (fX5_copies g z_s z_m) fun z_m_7 => (gd (inB (4 + p0) 45) (bd2 (fX5_comesIn g (z_s (4 + p0).toNatClampNeg) 60 z_m_7) fun r10 z_m_11 => (some (r10, z_m_11))))
set_option maxHeartbeats 4000000 in
set_option maxRecDepth 100000 in
theorem kX5_comesTo (l : Launch) (D : va_G) (cI cJ : ClassId) (sz g : Nat) (a_z a_z_s a_z_m a_z_image a_z_was a_z_letters a_z_row a_z_refused a_z_numbers : Nat) (z_hasImage : Int32) (z_letterMany : Int32) (z_rowMany : Int32) (z_reading : Int32) (z_seed : Int32) (z_s : Nat → Int32) (z_m : Nat → Int32) (p0 : Int32) (r : Int32) (n_z_m : Nat → Int32) (hf : fX5_comesTo g p0 z_s z_m = some (r, n_z_m)) : Met l yX5_comesTo wsX5_comesTo rmX5_comesTo (va_Pc [.ref a_z, .int p0] (sPc D (tyL cI cJ) [(a_z, .inr (5, [.ref a_z_s, .ref a_z_m, .ref a_z_image, .ref a_z_was, .int z_hasImage, .ref a_z_letters, .ref a_z_row, .ref a_z_refused, .int z_letterMany, .int z_rowMany, .int z_reading, .ref a_z_numbers, .int z_seed])), (a_z_s, .inl (cI, 45, .inl z_s)), (a_z_m, .inl (cI, 45, .inl z_m))] sz)) (qI D (tyL cI cJ) [(a_z, .inr (5, [.ref a_z_s, .ref a_z_m, .ref a_z_image, .ref a_z_was, .int z_hasImage, .ref a_z_letters, .ref a_z_row, .ref a_z_refused, .int z_letterMany, .int z_rowMany, .int z_reading, .ref a_z_numbers, .int z_seed])), (a_z_s, .inl (cI, 45, .inl z_s)), (a_z_m, .inl (cI, 45, .inl z_m))] sz [(a_z, .inr (5, [.ref a_z_s, .ref a_z_m, .ref a_z_image, .ref a_z_was, .int z_hasImage, .ref a_z_letters, .ref a_z_row, .ref a_z_refused, .int z_letterMany, .int z_rowMany, .int z_reading, .ref a_z_numbers, .int z_seed])), (a_z_s, .inl (cI, 45, .inl z_s)), (a_z_m, .inl (cI, 45, .inl n_z_m))] r) 0 0 (va_A [(a_z, .inr (5, [.ref a_z_s, .ref a_z_m, .ref a_z_image, .ref a_z_was, .int z_hasImage, .ref a_z_letters, .ref a_z_row, .ref a_z_refused, .int z_letterMany, .int z_rowMany, .int z_reading, .ref a_z_numbers, .int z_seed])), (a_z_s, .inl (cI, 45, .inl z_s)), (a_z_m, .inl (cI, 45, .inl z_m))] sz) := by
  refine st_i (cc := cX5_comesTo) (maxL := 2) (by decide) rfl (Nat.le_of_ble_eq_true rfl) ?_
  intro p e s m args below meth c A Q F hret0 H locs hP hS ls hl
  have F : Cx p s m args c cX5_comesTo 2 wsX5_comesTo RX5 D (tyL cI cJ) A := F
  have hx := F.1.1
  have hb := F.1.2.1
  have hown := F.1.2.2.2.1
  have hts := F.1.2.2.2.2
  have iX5 : ∀ w ∈ wsX50, w ∈ wsX5_comesTo := fun w h => (List.mem_cons_of_mem _ (List.mem_append_right _ h))
  have hret : ∀ (pc : Nat) (H : Heap) (locs : List Loc) (ls : Array Slot) (r' : Int32) (m_z_m : Nat → Int32), some (r', m_z_m) = some (r, n_z_m) → narrow .int (.int r') = .int r' → decode cX5_comesTo pc = .ok (.ireturn, 1) → WD D A [(a_z, .inr (5, [.ref a_z_s, .ref a_z_m, .ref a_z_image, .ref a_z_was, .int z_hasImage, .ref a_z_letters, .ref a_z_row, .ref a_z_refused, .int z_letterMany, .int z_rowMany, .int z_reading, .ref a_z_numbers, .int z_seed])), (a_z_s, .inl (cI, 45, .inl z_s)), (a_z_m, .inl (cI, 45, .inl m_z_m))] H → va_S A s.heap H locs → W p l e rmX5_comesTo s m args below meth c H locs 0 0 Q (F0 m pc ls [.int r']) := by
    intro pc H locs ls r' m_z_m h hn hd hP hS
    cases h
    exact hret0 pc H locs ls hn hd hP hS
  have hl : lv_has ls 2 [(0, .ref a_z), (1, .int p0)] := hl
  have h := hf
  unfold fX5_comesTo at h
  refine lv_aload_n hx hb dX5_comesTo_0 rfl (lv_at hl 0 rfl) ?_
  refine gt_X5_9 F iX5 (List.mem_cons_of_mem _ (List.mem_append_left _ (List.mem_append_left _ (List.mem_of_getElem? (i := 0) rfl)))) hP 0 rfl dX5_comesTo_1 ?_
  refine lv_aload_n hx hb dX5_comesTo_4 rfl (lv_at hl 0 rfl) ?_
  refine gt_X5_13 F iX5 (List.mem_cons_of_mem _ (List.mem_append_left _ (List.mem_append_left _ (List.mem_of_getElem? (i := 1) rfl)))) hP 0 rfl dX5_comesTo_5 ?_
  obtain ⟨z_m_7, hk8, h⟩ := bd1_e h
  refine cS_v (rest := []) F (kX5_copies l D cI cJ H.size g a_z_s a_z_m z_s z_m z_m_7 hk8) (va_cwS 2 hts gX5_comesTo_X5_copies rfl rfl rfl eSX5_copies ⟨Nat.le_of_ble_eq_true rfl, Nat.le_of_ble_eq_true rfl⟩) [1, 2] hP hS (by decide) rfl rfl rfl hl.1 (Nat.le_of_ble_eq_true rfl) ⟨Nat.le_refl _, Nat.le_refl _⟩ rfl dX5_comesTo_8 (fun H locs hP hS => ?_)
  have hP : WD D A [(a_z, .inr (5, [.ref a_z_s, .ref a_z_m, .ref a_z_image, .ref a_z_was, .int z_hasImage, .ref a_z_letters, .ref a_z_row, .ref a_z_refused, .int z_letterMany, .int z_rowMany, .int z_reading, .ref a_z_numbers, .int z_seed])), (a_z_s, .inl (cI, 45, .inl z_s)), (a_z_m, .inl (cI, 45, .inl z_m_7))] H := hP
  refine lv_aload_n hx hb dX5_comesTo_11 rfl (lv_at hl 0 rfl) ?_
  refine lv_aload_n hx hb dX5_comesTo_12 rfl (lv_at hl 0 rfl) ?_
  refine gt_X5_9 F iX5 (List.mem_cons_of_mem _ (List.mem_append_left _ (List.mem_append_left _ (List.mem_of_getElem? (i := 0) rfl)))) hP 0 rfl dX5_comesTo_13 ?_
  refine lv_iconst (v := 4) hx hb dX5_comesTo_16 (by decide) ?_
  refine lv_iload_n hx hb dX5_comesTo_17 rfl (lv_at hl 1 rfl) ?_
  refine lv_iadd hx hb dX5_comesTo_18 ?_
  obtain ⟨hg9, h⟩ := gd_e h
  refine r_ia F hP 1 rfl rfl hg9 dX5_comesTo_19 ?_
  refine lv_bipush (v := 60) hx hb dX5_comesTo_20 (by decide) ?_
  obtain ⟨r10, z_m_11, hk12, h⟩ := bd2_e h
  refine cV_i (rest := []) F (kX5_comesIn l D cI cJ H.size g a_z a_z_s a_z_m a_z_image a_z_was a_z_letters a_z_row a_z_refused a_z_numbers z_hasImage z_letterMany z_rowMany z_reading z_seed z_m_7 (z_s (4 + p0).toNatClampNeg) 60 r10 z_m_11 hk12) (cwV 2 hts gX5_comesTo_X5_comesIn rfl rfl rfl eVX5_comesIn ⟨Nat.le_of_ble_eq_true rfl, Nat.le_of_ble_eq_true rfl⟩) [0, 2] hP hS (by decide) rfl rfl 0 rfl rfl rfl hl.1 (Nat.le_of_ble_eq_true rfl) ⟨Nat.le_refl _, Nat.le_refl _⟩ rfl dX5_comesTo_22 (fun H locs hP hS => ?_)
  have hP : WD D A [(a_z, .inr (5, [.ref a_z_s, .ref a_z_m, .ref a_z_image, .ref a_z_was, .int z_hasImage, .ref a_z_letters, .ref a_z_row, .ref a_z_refused, .int z_letterMany, .int z_rowMany, .int z_reading, .ref a_z_numbers, .int z_seed])), (a_z_s, .inl (cI, 45, .inl z_s)), (a_z_m, .inl (cI, 45, .inl z_m_11))] H := hP
  exact hret 25 H locs ls r10 z_m_11 h rfl dX5_comesTo_25 hP hS
theorem eSX5_comes : yX5_comes.cls ≠ "java/lang/invoke/MethodHandle" ∧ yX5_comes.cls ≠ "java/lang/invoke/VarHandle" ∧ (parseMethodDescriptor yX5_comes.desc).map (fun d => d.parameters.length) = some 1 := by decide +kernel
theorem eVX5_comes : yX5_comes.cls = RX5 ∧ yX5_comes.cls ≠ "java/lang/invoke/MethodHandle" ∧ yX5_comes.cls ≠ "java/lang/invoke/VarHandle" ∧ (parseMethodDescriptor yX5_comes.desc).map (fun d => d.parameters.length) = some 1 := ⟨rfl, eSX5_comes⟩
abbrev rmX5_comes : Room := { frames := 8, cells := 0, slots := 0, locals := 179 }
def fX5_comes (g : Nat) (p0 : Int32) (z_s : Nat → Int32) (z_m : Nat → Int32) (z_refused : Nat → Int32) : Option (Int32 × (Nat → Int32) × (Nat → Int32)) := bd1 (fX5_isPlace g p0 z_s) fun r10 => (if r10 = 0 then (bd2 (fX5_no g (-1) z_refused) fun r13 z_refused_14 => (some (r13, z_m, z_refused_14))) else (bd2 (fX5_comesTo g p0 z_s z_m) fun r16 z_m_17 => (some (r16, z_m_17, z_refused))))
set_option maxHeartbeats 4000000 in
set_option maxRecDepth 100000 in
theorem kX5_comes (l : Launch) (D : va_G) (cI cJ : ClassId) (sz g : Nat) (a_z a_z_s a_z_m a_z_image a_z_was a_z_letters a_z_row a_z_refused a_z_numbers : Nat) (z_hasImage : Int32) (z_letterMany : Int32) (z_rowMany : Int32) (z_reading : Int32) (z_seed : Int32) (z_s : Nat → Int32) (z_m : Nat → Int32) (z_refused : Nat → Int32) (p0 : Int32) (r : Int32) (n_z_m : Nat → Int32) (n_z_refused : Nat → Int32) (hf : fX5_comes g p0 z_s z_m z_refused = some (r, n_z_m, n_z_refused)) : Met l yX5_comes wsX5_comes rmX5_comes (va_Pc [.ref a_z, .int p0] (sPc D (tyL cI cJ) [(a_z, .inr (5, [.ref a_z_s, .ref a_z_m, .ref a_z_image, .ref a_z_was, .int z_hasImage, .ref a_z_letters, .ref a_z_row, .ref a_z_refused, .int z_letterMany, .int z_rowMany, .int z_reading, .ref a_z_numbers, .int z_seed])), (a_z_s, .inl (cI, 45, .inl z_s)), (a_z_m, .inl (cI, 45, .inl z_m)), (a_z_refused, .inl (cI, 7, .inl z_refused))] sz)) (qI D (tyL cI cJ) [(a_z, .inr (5, [.ref a_z_s, .ref a_z_m, .ref a_z_image, .ref a_z_was, .int z_hasImage, .ref a_z_letters, .ref a_z_row, .ref a_z_refused, .int z_letterMany, .int z_rowMany, .int z_reading, .ref a_z_numbers, .int z_seed])), (a_z_s, .inl (cI, 45, .inl z_s)), (a_z_m, .inl (cI, 45, .inl z_m)), (a_z_refused, .inl (cI, 7, .inl z_refused))] sz [(a_z, .inr (5, [.ref a_z_s, .ref a_z_m, .ref a_z_image, .ref a_z_was, .int z_hasImage, .ref a_z_letters, .ref a_z_row, .ref a_z_refused, .int z_letterMany, .int z_rowMany, .int z_reading, .ref a_z_numbers, .int z_seed])), (a_z_s, .inl (cI, 45, .inl z_s)), (a_z_m, .inl (cI, 45, .inl n_z_m)), (a_z_refused, .inl (cI, 7, .inl n_z_refused))] r) 0 0 (va_A [(a_z, .inr (5, [.ref a_z_s, .ref a_z_m, .ref a_z_image, .ref a_z_was, .int z_hasImage, .ref a_z_letters, .ref a_z_row, .ref a_z_refused, .int z_letterMany, .int z_rowMany, .int z_reading, .ref a_z_numbers, .int z_seed])), (a_z_s, .inl (cI, 45, .inl z_s)), (a_z_m, .inl (cI, 45, .inl z_m)), (a_z_refused, .inl (cI, 7, .inl z_refused))] sz) := by
  refine st_i (cc := cX5_comes) (maxL := 2) (by decide) rfl (Nat.le_of_ble_eq_true rfl) ?_
  intro p e s m args below meth c A Q F hret0 H locs hP hS ls hl
  have F : Cx p s m args c cX5_comes 2 wsX5_comes RX5 D (tyL cI cJ) A := F
  have hx := F.1.1
  have hb := F.1.2.1
  have hown := F.1.2.2.2.1
  have hts := F.1.2.2.2.2
  have hret : ∀ (pc : Nat) (H : Heap) (locs : List Loc) (ls : Array Slot) (r' : Int32) (m_z_m : Nat → Int32) (m_z_refused : Nat → Int32), some (r', m_z_m, m_z_refused) = some (r, n_z_m, n_z_refused) → narrow .int (.int r') = .int r' → decode cX5_comes pc = .ok (.ireturn, 1) → WD D A [(a_z, .inr (5, [.ref a_z_s, .ref a_z_m, .ref a_z_image, .ref a_z_was, .int z_hasImage, .ref a_z_letters, .ref a_z_row, .ref a_z_refused, .int z_letterMany, .int z_rowMany, .int z_reading, .ref a_z_numbers, .int z_seed])), (a_z_s, .inl (cI, 45, .inl z_s)), (a_z_m, .inl (cI, 45, .inl m_z_m)), (a_z_refused, .inl (cI, 7, .inl m_z_refused))] H → va_S A s.heap H locs → W p l e rmX5_comes s m args below meth c H locs 0 0 Q (F0 m pc ls [.int r']) := by
    intro pc H locs ls r' m_z_m m_z_refused h hn hd hP hS
    cases h
    exact hret0 pc H locs ls hn hd hP hS
  have hl : lv_has ls 2 [(0, .ref a_z), (1, .int p0)] := hl
  have h := hf
  unfold fX5_comes at h
  refine lv_aload_n hx hb dX5_comes_0 rfl (lv_at hl 0 rfl) ?_
  refine lv_iload_n hx hb dX5_comes_1 rfl (lv_at hl 1 rfl) ?_
  obtain ⟨r10, hk11, h⟩ := bd1_e h
  refine cV_i (rest := []) F (kX5_isPlace l D cI cJ H.size g a_z a_z_s a_z_m a_z_image a_z_was a_z_letters a_z_row a_z_refused a_z_numbers z_hasImage z_letterMany z_rowMany z_reading z_seed z_s p0 r10 hk11) (cwV 1 hts gX5_comes_X5_isPlace rfl rfl rfl eVX5_isPlace ⟨Nat.le_of_ble_eq_true rfl, Nat.le_of_ble_eq_true rfl⟩) [0, 1] hP hS (by decide) rfl rfl 0 rfl rfl rfl hl.1 (Nat.le_of_ble_eq_true rfl) ⟨Nat.le_refl _, Nat.le_refl _⟩ rfl dX5_comes_2 (fun H locs hP hS => ?_)
  have hP : WD D A [(a_z, .inr (5, [.ref a_z_s, .ref a_z_m, .ref a_z_image, .ref a_z_was, .int z_hasImage, .ref a_z_letters, .ref a_z_row, .ref a_z_refused, .int z_letterMany, .int z_rowMany, .int z_reading, .ref a_z_numbers, .int z_seed])), (a_z_s, .inl (cI, 45, .inl z_s)), (a_z_m, .inl (cI, 45, .inl z_m)), (a_z_refused, .inl (cI, 7, .inl z_refused))] H := hP
  refine lv_if_eq (tgt := 16) hx hb dX5_comes_5 (by decide) (fun hc12 => ?_) (fun hc12 => ?_)
  · have h := it_p hc12 h
    refine lv_aload_n hx hb dX5_comes_16 rfl (lv_at hl 0 rfl) ?_
    refine lv_iconst (v := (-1)) hx hb dX5_comes_17 (by decide) ?_
    obtain ⟨r13, z_refused_14, hk15, h⟩ := bd2_e h
    refine cV_i (rest := []) F (kX5_no l D cI cJ H.size g a_z a_z_s a_z_m a_z_image a_z_was a_z_letters a_z_row a_z_refused a_z_numbers z_hasImage z_letterMany z_rowMany z_reading z_seed z_refused (-1) r13 z_refused_14 hk15) (cwV 1 hts gX5_comes_X5_no rfl rfl rfl eVX5_no ⟨Nat.le_of_ble_eq_true rfl, Nat.le_of_ble_eq_true rfl⟩) [0, 3] hP hS (by decide) rfl rfl 0 rfl rfl rfl hl.1 (Nat.le_of_ble_eq_true rfl) ⟨Nat.le_refl _, Nat.le_refl _⟩ rfl dX5_comes_18 (fun H locs hP hS => ?_)
    have hP : WD D A [(a_z, .inr (5, [.ref a_z_s, .ref a_z_m, .ref a_z_image, .ref a_z_was, .int z_hasImage, .ref a_z_letters, .ref a_z_row, .ref a_z_refused, .int z_letterMany, .int z_rowMany, .int z_reading, .ref a_z_numbers, .int z_seed])), (a_z_s, .inl (cI, 45, .inl z_s)), (a_z_m, .inl (cI, 45, .inl z_m)), (a_z_refused, .inl (cI, 7, .inl z_refused_14))] H := hP
    exact hret 21 H locs ls r13 z_m z_refused_14 h rfl dX5_comes_21 hP hS
  · have h := it_n hc12 h
    refine lv_aload_n hx hb dX5_comes_8 rfl (lv_at hl 0 rfl) ?_
    refine lv_iload_n hx hb dX5_comes_9 rfl (lv_at hl 1 rfl) ?_
    obtain ⟨r16, z_m_17, hk18, h⟩ := bd2_e h
    refine cV_i (rest := []) F (kX5_comesTo l D cI cJ H.size g a_z a_z_s a_z_m a_z_image a_z_was a_z_letters a_z_row a_z_refused a_z_numbers z_hasImage z_letterMany z_rowMany z_reading z_seed z_s z_m p0 r16 z_m_17 hk18) (cwV 1 hts gX5_comes_X5_comesTo rfl rfl rfl eVX5_comesTo ⟨Nat.le_of_ble_eq_true rfl, Nat.le_of_ble_eq_true rfl⟩) [0, 1, 2] hP hS (by decide) rfl rfl 0 rfl rfl rfl hl.1 (Nat.le_of_ble_eq_true rfl) ⟨Nat.le_refl _, Nat.le_refl _⟩ rfl dX5_comes_10 (fun H locs hP hS => ?_)
    have hP : WD D A [(a_z, .inr (5, [.ref a_z_s, .ref a_z_m, .ref a_z_image, .ref a_z_was, .int z_hasImage, .ref a_z_letters, .ref a_z_row, .ref a_z_refused, .int z_letterMany, .int z_rowMany, .int z_reading, .ref a_z_numbers, .int z_seed])), (a_z_s, .inl (cI, 45, .inl z_s)), (a_z_m, .inl (cI, 45, .inl z_m_17)), (a_z_refused, .inl (cI, 7, .inl z_refused))] H := hP
    refine lv_goto (tgt := 21) hx hb dX5_comes_13 (by decide) ?_
    exact hret 21 H locs ls r16 z_m_17 z_refused h rfl dX5_comes_21 hP hS
theorem eSX5_placeAt : yX5_placeAt.cls ≠ "java/lang/invoke/MethodHandle" ∧ yX5_placeAt.cls ≠ "java/lang/invoke/VarHandle" ∧ (parseMethodDescriptor yX5_placeAt.desc).map (fun d => d.parameters.length) = some 1 := by decide +kernel
theorem eVX5_placeAt : yX5_placeAt.cls = RX5 ∧ yX5_placeAt.cls ≠ "java/lang/invoke/MethodHandle" ∧ yX5_placeAt.cls ≠ "java/lang/invoke/VarHandle" ∧ (parseMethodDescriptor yX5_placeAt.desc).map (fun d => d.parameters.length) = some 1 := ⟨rfl, eSX5_placeAt⟩
abbrev rmX5_placeAt : Room := { frames := 0, cells := 0, slots := 0, locals := 0 }
def fX5_placeAt_L2_b (g : Nat) (q0 : Nat → Int32) (self : Int32 → Option ((Unit) ⊕ (Int32))) (x1_L2 : Int32) : Option ((Unit) ⊕ (Int32)) := if (q0 0) ≤ x1_L2 then (some (.inl ())) else (gd (inB (4 + x1_L2) 45) (if (q0 (4 + x1_L2).toNatClampNeg) = (q0 3) then (some (.inr x1_L2)) else (self (x1_L2 + 1))))
def fX5_placeAt_L2 (g : Nat) (q0 : Nat → Int32) (n : Nat) : Int32 → Option ((Unit) ⊕ (Int32)) := lp (fX5_placeAt_L2_b g q0) (fun _ => none) n
def fX5_placeAt (g : Nat) (q0 : Nat → Int32) : Option (Int32) := bs0 (fX5_placeAt_L2 g q0 g 0) (fun q => some q) (some (-9))
set_option maxHeartbeats 4000000 in
set_option maxRecDepth 100000 in
theorem kX5_placeAt (l : Launch) (D : va_G) (cI cJ : ClassId) (sz g : Nat) (a_q0 : Nat) (q0 : Nat → Int32) (r : Int32) (hf : fX5_placeAt g q0 = some r) : Met l yX5_placeAt wsX5_placeAt rmX5_placeAt (va_Pc [.ref a_q0] (sPc D (tyL cI cJ) [(a_q0, .inl (cI, 45, .inl q0))] sz)) (qI D (tyL cI cJ) [(a_q0, .inl (cI, 45, .inl q0))] sz [(a_q0, .inl (cI, 45, .inl q0))] r) 0 0 (va_A [(a_q0, .inl (cI, 45, .inl q0))] sz) := by
  refine st_i (cc := cX5_placeAt) (maxL := 2) (by decide) rfl (Nat.le_of_ble_eq_true rfl) ?_
  intro p e s m args below meth c A Q F hret0 H locs hP hS ls hl
  have F : Cx p s m args c cX5_placeAt 2 wsX5_placeAt RX5 D (tyL cI cJ) A := F
  have hx := F.1.1
  have hb := F.1.2.1
  have hown := F.1.2.2.2.1
  have hts := F.1.2.2.2.2
  have hret : ∀ (pc : Nat) (H : Heap) (locs : List Loc) (ls : Array Slot) (r' : Int32), some r' = some r → narrow .int (.int r') = .int r' → decode cX5_placeAt pc = .ok (.ireturn, 1) → WD D A [(a_q0, .inl (cI, 45, .inl q0))] H → va_S A s.heap H locs → W p l e rmX5_placeAt s m args below meth c H locs 0 0 Q (F0 m pc ls [.int r']) := by
    intro pc H locs ls r' h hn hd hP hS
    cases h
    exact hret0 pc H locs ls hn hd hP hS
  have L2 : ∀ (n : Nat) (x1_L2 : Int32) (x : (Unit) ⊕ (Int32)) (H : Heap) (locs : List Loc) (ls : Array Slot), fX5_placeAt_L2 g q0 n x1_L2 = some x → WD D A [(a_q0, .inl (cI, 45, .inl q0))] H → va_S A s.heap H locs → lv_has ls 2 [(0, .ref a_q0), (1, .int x1_L2)] → (∀ (_ : Unit), .inl () = x → (∀ (H : Heap) (locs : List Loc) (ls : Array Slot), WD D A [(a_q0, .inl (cI, 45, .inl q0))] H → va_S A s.heap H locs → lv_has ls 2 [] → W p l e rmX5_placeAt s m args below meth c H locs 0 0 Q (F0 m 28 ls []))) → (∀ q : Int32, .inr q = x → some q = some r) → W p l e rmX5_placeAt s m args below meth c H locs 0 0 Q (F0 m 2 ls []) := by
    intro n
    induction n with
    | zero =>
      intro x1_L2 x H locs ls h
      exact (no_some h).elim
    | succ n ih =>
      intro x1_L2 x H locs ls h hP hS hl kE kR
      have h : fX5_placeAt_L2_b g q0 (fX5_placeAt_L2 g q0 n) x1_L2 = some x := h
      unfold fX5_placeAt_L2_b at h
      refine lv_iload_n hx hb dX5_placeAt_2 rfl (lv_at hl 1 rfl) ?_
      refine lv_aload_n hx hb dX5_placeAt_3 rfl (lv_at hl 0 rfl) ?_
      refine lv_iconst (v := 0) hx hb dX5_placeAt_4 (by decide) ?_
      refine r_ia F hP 0 rfl (j := 0) rfl (by decide) dX5_placeAt_5 ?_
      refine lv_icmp_ge (tgt := 28) hx hb dX5_placeAt_6 (by decide) (fun hc1 => ?_) (fun hc1 => ?_)
      · have h := it_p hc1 h
        cases h
        exact kE () rfl H locs ls hP hS (lv_sub hl [] rfl)
      · have h := it_n hc1 h
        refine lv_aload_n hx hb dX5_placeAt_9 rfl (lv_at hl 0 rfl) ?_
        refine lv_iconst (v := 4) hx hb dX5_placeAt_10 (by decide) ?_
        refine lv_iload_n hx hb dX5_placeAt_11 rfl (lv_at hl 1 rfl) ?_
        refine lv_iadd hx hb dX5_placeAt_12 ?_
        obtain ⟨hg2, h⟩ := gd_e h
        refine r_ia F hP 0 rfl rfl hg2 dX5_placeAt_13 ?_
        refine lv_aload_n hx hb dX5_placeAt_14 rfl (lv_at hl 0 rfl) ?_
        refine lv_iconst (v := 3) hx hb dX5_placeAt_15 (by decide) ?_
        refine r_ia F hP 0 rfl (j := 3) rfl (by decide) dX5_placeAt_16 ?_
        refine lv_icmp_ne (tgt := 22) hx hb dX5_placeAt_17 (by decide) (fun hc3 => ?_) (fun hc3 => ?_)
        · have h := it_n hc3 h
          refine lv_iinc (v := x1_L2 + 1) (lv' := [(1, .int (x1_L2 + 1)), (0, .ref a_q0)]) hx hb dX5_placeAt_22 hl (k := 1) rfl rfl (by decide) rfl (fun ls hl => ?_)
          refine lv_goto (tgt := 2) hx hb dX5_placeAt_25 (by decide) ?_
          exact ih (x1_L2 + 1) x H locs ls h hP hS (lv_sub hl [1, 0] rfl) kE kR
        · have h := it_p hc3 h
          refine lv_iload_n hx hb dX5_placeAt_20 rfl (lv_at hl 1 rfl) ?_
          have h := kR _ (Option.some.inj h)
          exact hret 21 H locs ls x1_L2 h rfl dX5_placeAt_21 hP hS
  have hl : lv_has ls 2 [(0, .ref a_q0)] := hl
  have h := hf
  unfold fX5_placeAt at h
  refine lv_iconst (v := 0) hx hb dX5_placeAt_0 (by decide) ?_
  refine lv_istore_n (lv' := [(1, .int 0), (0, .ref a_q0)]) hx hb dX5_placeAt_1 rfl hl (by decide) rfl (fun ls hl => ?_)
  obtain ⟨x5, hk4, x5a, x5b⟩ := bs0_e h
  refine L2 g 0 x5 H locs ls hk4 hP hS (lv_sub hl [1, 0] rfl) (fun _ he6 H locs ls hP hS hl => ?_) (fun q he6 => (x5b q he6.symm))
  have h := x5a () he6.symm
  refine lv_bipush (v := (-9)) hx hb dX5_placeAt_28 (by decide) ?_
  exact hret 30 H locs ls (-9) h rfl dX5_placeAt_30 hP hS
