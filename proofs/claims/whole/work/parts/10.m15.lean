theorem eSX5_adds : yX5_adds.cls ≠ "java/lang/invoke/MethodHandle" ∧ yX5_adds.cls ≠ "java/lang/invoke/VarHandle" ∧ (parseMethodDescriptor yX5_adds.desc).map (fun d => d.parameters.length) = some 4 := by decide +kernel
theorem eVX5_adds : yX5_adds.cls = RX5 ∧ yX5_adds.cls ≠ "java/lang/invoke/MethodHandle" ∧ yX5_adds.cls ≠ "java/lang/invoke/VarHandle" ∧ (parseMethodDescriptor yX5_adds.desc).map (fun d => d.parameters.length) = some 4 := ⟨rfl, eSX5_adds⟩
abbrev rmX5_adds : Room := { frames := 1, cells := 0, slots := 0, locals := 21 }
def fX5_adds (g : Nat) (p1 : Int32) (p2 : Int32) (p3 : Int32) (q0 : Nat → Int32) : Option ((Nat → Int32)) := bd1 (fX5_of g (q0 1) 0) fun r16 => (gd (inB r16 45) (bd1 (fX5_of g (q0 1) 1) fun r19 => (gd (inB r19 45) (bd1 (fX5_of g (q0 1) 2) fun r22 => (gd (inB r22 45) (bd1 (fX5_of g (q0 1) 3) fun r25 => (gd (inB r25 45) (bd1 (fX5_of g (q0 1) 4) fun r28 => (gd (inB r28 45) (some (upd (upd (upd (upd (upd (upd q0 r16.toNatClampNeg p1) r19.toNatClampNeg p2) r22.toNatClampNeg p3) r25.toNatClampNeg 0) r28.toNatClampNeg 1) 1 (((upd (upd (upd (upd (upd q0 r16.toNatClampNeg p1) r19.toNatClampNeg p2) r22.toNatClampNeg p3) r25.toNatClampNeg 0) r28.toNatClampNeg 1) 1) + 1))))))))))))
set_option maxHeartbeats 4000000 in
set_option maxRecDepth 100000 in
theorem kX5_adds (l : Launch) (D : va_G) (cI cJ : ClassId) (sz g : Nat) (a_q0 : Nat) (q0 : Nat → Int32) (p1 : Int32) (p2 : Int32) (p3 : Int32) (n_q0 : Nat → Int32) (hf : fX5_adds g p1 p2 p3 q0 = some n_q0) : Met l yX5_adds wsX5_adds rmX5_adds (va_Pc [.ref a_q0, .int p1, .int p2, .int p3] (sPc D (tyL cI cJ) [(a_q0, .inl (cI, 45, .inl q0))] sz)) (qV D (tyL cI cJ) [(a_q0, .inl (cI, 45, .inl q0))] sz [(a_q0, .inl (cI, 45, .inl n_q0))]) 0 0 (va_A [(a_q0, .inl (cI, 45, .inl q0))] sz) := by
  refine st_v (cc := cX5_adds) (maxL := 5) (by decide) rfl (Nat.le_of_ble_eq_true rfl) ?_
  intro p e s m args below meth c A Q F hret0 H locs hP hS ls hl
  have F : Cx p s m args c cX5_adds 5 wsX5_adds RX5 D (tyL cI cJ) A := F
  have hx := F.1.1
  have hb := F.1.2.1
  have hown := F.1.2.2.2.1
  have hts := F.1.2.2.2.2
  have hret : ∀ (pc : Nat) (H : Heap) (locs : List Loc) (ls : Array Slot) (m_q0 : Nat → Int32), some m_q0 = some n_q0 → decode cX5_adds pc = .ok (.return_, 1) → WD D A [(a_q0, .inl (cI, 45, .inl m_q0))] H → va_S A s.heap H locs → W p l e rmX5_adds s m args below meth c H locs 0 0 Q (F0 m pc ls []) := by
    intro pc H locs ls m_q0 h hd hP hS
    cases h
    exact hret0 pc H locs ls hd hP hS
  have hl : lv_has ls 5 [(0, .ref a_q0), (1, .int p1), (2, .int p2), (3, .int p3)] := hl
  have h := hf
  unfold fX5_adds at h
  refine lv_aload_n hx hb dX5_adds_0 rfl (lv_at hl 0 rfl) ?_
  refine lv_iconst (v := 1) hx hb dX5_adds_1 (by decide) ?_
  refine r_ia F hP 0 rfl (j := 1) rfl (by decide) dX5_adds_2 ?_
  refine lv_istore (lv' := [(4, .int (q0 1)), (0, .ref a_q0), (1, .int p1), (2, .int p2), (3, .int p3)]) hx hb dX5_adds_3 hl (by decide) rfl (fun ls hl => ?_)
  refine lv_aload_n hx hb dX5_adds_5 rfl (lv_at hl 1 rfl) ?_
  refine lv_iload hx hb dX5_adds_6 (lv_at hl 0 rfl) ?_
  refine lv_iconst (v := 0) hx hb dX5_adds_8 (by decide) ?_
  obtain ⟨r16, hk17, h⟩ := bd1_e h
  refine cS_i (rest := [.ref a_q0]) F (kX5_of l D cI cJ H.size g (q0 1) 0 r16 hk17) (va_cwS 2 hts gX5_adds_X5_of rfl rfl rfl eSX5_of ⟨Nat.le_of_ble_eq_true rfl, Nat.le_of_ble_eq_true rfl⟩) [] hP hS (by decide) rfl rfl rfl hl.1 (Nat.le_of_ble_eq_true rfl) ⟨Nat.le_refl _, Nat.le_refl _⟩ rfl dX5_adds_9 (fun H locs hP hS => ?_)
  have hP : WD D A [(a_q0, .inl (cI, 45, .inl q0))] H := hP
  refine lv_iload_n hx hb dX5_adds_12 rfl (lv_at hl 2 rfl) ?_
  obtain ⟨hg18, h⟩ := gd_e h
  refine r_is F hP hS 0 rfl rfl hg18 dX5_adds_13 (fun H locs hP hS => ?_)
  have hP : WD D A [(a_q0, .inl (cI, 45, .inl (upd q0 r16.toNatClampNeg p1)))] H := hP
  refine lv_aload_n hx hb dX5_adds_14 rfl (lv_at hl 1 rfl) ?_
  refine lv_iload hx hb dX5_adds_15 (lv_at hl 0 rfl) ?_
  refine lv_iconst (v := 1) hx hb dX5_adds_17 (by decide) ?_
  obtain ⟨r19, hk20, h⟩ := bd1_e h
  refine cS_i (rest := [.ref a_q0]) F (kX5_of l D cI cJ H.size g (q0 1) 1 r19 hk20) (va_cwS 2 hts gX5_adds_X5_of rfl rfl rfl eSX5_of ⟨Nat.le_of_ble_eq_true rfl, Nat.le_of_ble_eq_true rfl⟩) [] hP hS (by decide) rfl rfl rfl hl.1 (Nat.le_of_ble_eq_true rfl) ⟨Nat.le_refl _, Nat.le_refl _⟩ rfl dX5_adds_18 (fun H locs hP hS => ?_)
  have hP : WD D A [(a_q0, .inl (cI, 45, .inl (upd q0 r16.toNatClampNeg p1)))] H := hP
  refine lv_iload_n hx hb dX5_adds_21 rfl (lv_at hl 3 rfl) ?_
  obtain ⟨hg21, h⟩ := gd_e h
  refine r_is F hP hS 0 rfl rfl hg21 dX5_adds_22 (fun H locs hP hS => ?_)
  have hP : WD D A [(a_q0, .inl (cI, 45, .inl (upd (upd q0 r16.toNatClampNeg p1) r19.toNatClampNeg p2)))] H := hP
  refine lv_aload_n hx hb dX5_adds_23 rfl (lv_at hl 1 rfl) ?_
  refine lv_iload hx hb dX5_adds_24 (lv_at hl 0 rfl) ?_
  refine lv_iconst (v := 2) hx hb dX5_adds_26 (by decide) ?_
  obtain ⟨r22, hk23, h⟩ := bd1_e h
  refine cS_i (rest := [.ref a_q0]) F (kX5_of l D cI cJ H.size g (q0 1) 2 r22 hk23) (va_cwS 2 hts gX5_adds_X5_of rfl rfl rfl eSX5_of ⟨Nat.le_of_ble_eq_true rfl, Nat.le_of_ble_eq_true rfl⟩) [] hP hS (by decide) rfl rfl rfl hl.1 (Nat.le_of_ble_eq_true rfl) ⟨Nat.le_refl _, Nat.le_refl _⟩ rfl dX5_adds_27 (fun H locs hP hS => ?_)
  have hP : WD D A [(a_q0, .inl (cI, 45, .inl (upd (upd q0 r16.toNatClampNeg p1) r19.toNatClampNeg p2)))] H := hP
  refine lv_iload_n hx hb dX5_adds_30 rfl (lv_at hl 4 rfl) ?_
  obtain ⟨hg24, h⟩ := gd_e h
  refine r_is F hP hS 0 rfl rfl hg24 dX5_adds_31 (fun H locs hP hS => ?_)
  have hP : WD D A [(a_q0, .inl (cI, 45, .inl (upd (upd (upd q0 r16.toNatClampNeg p1) r19.toNatClampNeg p2) r22.toNatClampNeg p3)))] H := hP
  refine lv_aload_n hx hb dX5_adds_32 rfl (lv_at hl 1 rfl) ?_
  refine lv_iload hx hb dX5_adds_33 (lv_at hl 0 rfl) ?_
  refine lv_iconst (v := 3) hx hb dX5_adds_35 (by decide) ?_
  obtain ⟨r25, hk26, h⟩ := bd1_e h
  refine cS_i (rest := [.ref a_q0]) F (kX5_of l D cI cJ H.size g (q0 1) 3 r25 hk26) (va_cwS 2 hts gX5_adds_X5_of rfl rfl rfl eSX5_of ⟨Nat.le_of_ble_eq_true rfl, Nat.le_of_ble_eq_true rfl⟩) [] hP hS (by decide) rfl rfl rfl hl.1 (Nat.le_of_ble_eq_true rfl) ⟨Nat.le_refl _, Nat.le_refl _⟩ rfl dX5_adds_36 (fun H locs hP hS => ?_)
  have hP : WD D A [(a_q0, .inl (cI, 45, .inl (upd (upd (upd q0 r16.toNatClampNeg p1) r19.toNatClampNeg p2) r22.toNatClampNeg p3)))] H := hP
  refine lv_iconst (v := 0) hx hb dX5_adds_39 (by decide) ?_
  obtain ⟨hg27, h⟩ := gd_e h
  refine r_is F hP hS 0 rfl rfl hg27 dX5_adds_40 (fun H locs hP hS => ?_)
  have hP : WD D A [(a_q0, .inl (cI, 45, .inl (upd (upd (upd (upd q0 r16.toNatClampNeg p1) r19.toNatClampNeg p2) r22.toNatClampNeg p3) r25.toNatClampNeg 0)))] H := hP
  refine lv_aload_n hx hb dX5_adds_41 rfl (lv_at hl 1 rfl) ?_
  refine lv_iload hx hb dX5_adds_42 (lv_at hl 0 rfl) ?_
  refine lv_iconst (v := 4) hx hb dX5_adds_44 (by decide) ?_
  obtain ⟨r28, hk29, h⟩ := bd1_e h
  refine cS_i (rest := [.ref a_q0]) F (kX5_of l D cI cJ H.size g (q0 1) 4 r28 hk29) (va_cwS 2 hts gX5_adds_X5_of rfl rfl rfl eSX5_of ⟨Nat.le_of_ble_eq_true rfl, Nat.le_of_ble_eq_true rfl⟩) [] hP hS (by decide) rfl rfl rfl hl.1 (Nat.le_of_ble_eq_true rfl) ⟨Nat.le_refl _, Nat.le_refl _⟩ rfl dX5_adds_45 (fun H locs hP hS => ?_)
  have hP : WD D A [(a_q0, .inl (cI, 45, .inl (upd (upd (upd (upd q0 r16.toNatClampNeg p1) r19.toNatClampNeg p2) r22.toNatClampNeg p3) r25.toNatClampNeg 0)))] H := hP
  refine lv_iconst (v := 1) hx hb dX5_adds_48 (by decide) ?_
  obtain ⟨hg30, h⟩ := gd_e h
  refine r_is F hP hS 0 rfl rfl hg30 dX5_adds_49 (fun H locs hP hS => ?_)
  have hP : WD D A [(a_q0, .inl (cI, 45, .inl (upd (upd (upd (upd (upd q0 r16.toNatClampNeg p1) r19.toNatClampNeg p2) r22.toNatClampNeg p3) r25.toNatClampNeg 0) r28.toNatClampNeg 1)))] H := hP
  refine lv_aload_n hx hb dX5_adds_50 rfl (lv_at hl 1 rfl) ?_
  refine lv_iconst (v := 1) hx hb dX5_adds_51 (by decide) ?_
  refine lv_dup2_11 hx hb dX5_adds_52 rfl rfl ?_
  refine r_ia F hP 0 rfl (j := 1) rfl (by decide) dX5_adds_53 ?_
  refine lv_iconst (v := 1) hx hb dX5_adds_54 (by decide) ?_
  refine lv_iadd hx hb dX5_adds_55 ?_
  refine r_is F hP hS 0 rfl (j := 1) rfl (by decide) dX5_adds_56 (fun H locs hP hS => ?_)
  have hP : WD D A [(a_q0, .inl (cI, 45, .inl (upd (upd (upd (upd (upd (upd q0 r16.toNatClampNeg p1) r19.toNatClampNeg p2) r22.toNatClampNeg p3) r25.toNatClampNeg 0) r28.toNatClampNeg 1) 1 (((upd (upd (upd (upd (upd q0 r16.toNatClampNeg p1) r19.toNatClampNeg p2) r22.toNatClampNeg p3) r25.toNatClampNeg 0) r28.toNatClampNeg 1) 1) + 1))))] H := hP
  exact hret 57 H locs ls (upd (upd (upd (upd (upd (upd q0 r16.toNatClampNeg p1) r19.toNatClampNeg p2) r22.toNatClampNeg p3) r25.toNatClampNeg 0) r28.toNatClampNeg 1) 1 (((upd (upd (upd (upd (upd q0 r16.toNatClampNeg p1) r19.toNatClampNeg p2) r22.toNatClampNeg p3) r25.toNatClampNeg 0) r28.toNatClampNeg 1) 1) + 1)) h dX5_adds_57 hP hS
theorem eSX5_isDone : yX5_isDone.cls ≠ "java/lang/invoke/MethodHandle" ∧ yX5_isDone.cls ≠ "java/lang/invoke/VarHandle" ∧ (parseMethodDescriptor yX5_isDone.desc).map (fun d => d.parameters.length) = some 1 := by decide +kernel
theorem eVX5_isDone : yX5_isDone.cls = RX5 ∧ yX5_isDone.cls ≠ "java/lang/invoke/MethodHandle" ∧ yX5_isDone.cls ≠ "java/lang/invoke/VarHandle" ∧ (parseMethodDescriptor yX5_isDone.desc).map (fun d => d.parameters.length) = some 1 := ⟨rfl, eSX5_isDone⟩
abbrev rmX5_isDone : Room := { frames := 7, cells := 0, slots := 0, locals := 157 }
def fX5_isDone (g : Nat) (p0 : Int32) (z_s : Nat → Int32) (z_numbers : Nat → Int32) : Option (Int32 × (Nat → Int32)) := if p0 = 97 then (bd1 (fX5_isHand g (z_numbers 0) z_s) fun r88 => (if r88 = 0 then (some (0, z_s)) else (bd1 (fX5_of g (z_numbers 0) 4) fun r91 => (gd (inB r91 45) (gd (inB r91 45) (some (1, upd z_s r91.toNatClampNeg ((z_s r91.toNatClampNeg) ^^^ 1)))))))) else (if p0 = 104 then (bd1 (fX5_isPlace g (z_numbers 2) z_s) fun r82 => (if r82 = 0 then (some (0, z_s)) else (if (z_s 1) = 7 then (some (0, z_s)) else (bd1 (fX5_adds g (z_numbers 0) (z_numbers 1) (z_numbers 2) z_s) fun z_s_86 => (some (1, z_s_86)))))) else (if p0 = 108 then (bd1 (fX5_isHand g (z_numbers 0) z_s) fun r77 => (if r77 = 0 then (some (0, z_s)) else (bd1 (fX5_dropsIn g (z_numbers 0) z_s) fun z_s_80 => (some (1, z_s_80))))) else (if p0 = 109 then (bd1 (fX5_isHand g (z_numbers 0) z_s) fun r68 => (if r68 = 0 then (some (0, z_s)) else (bd1 (fX5_isPlace g (z_numbers 1) z_s) fun r71 => (if r71 = 0 then (some (0, z_s)) else (bd1 (fX5_of g (z_numbers 0) 2) fun r74 => (gd (inB r74 45) (some (1, upd z_s r74.toNatClampNeg (z_numbers 1))))))))) else (if p0 = 112 then (bd1 (fX5_isCell g (z_numbers 0)) fun r63 => (if r63 = 0 then (some (0, z_s)) else (if (z_s 0) = 6 then (some (0, z_s)) else (gd (inB (4 + (z_s 0)) 45) (some (1, upd (upd z_s (4 + (z_s 0)).toNatClampNeg (z_numbers 0)) 0 (((upd z_s (4 + (z_s 0)).toNatClampNeg (z_numbers 0)) 0) + 1))))))) else (if p0 = 115 then (bd1 (fX5_isCell g (z_numbers 0)) fun r60 => (if r60 = 0 then (some (0, z_s)) else (some (1, upd z_s 3 (z_numbers 0))))) else (bd1 (fX5_isIn g (z_numbers 0) 1 60) fun r54 => (if r54 = 0 then (some (0, z_s)) else (if ((z_s 2) + (z_numbers 0)) ≤ 999 then (bd1 (fX5_daysOn g (z_numbers 0) z_s) fun z_s_58 => (some (1, z_s_58))) else (some (0, z_s))))))))))
set_option maxHeartbeats 4000000 in
set_option maxRecDepth 100000 in
theorem kX5_isDone (l : Launch) (D : va_G) (cI cJ : ClassId) (sz g : Nat) (a_z a_z_s a_z_m a_z_image a_z_was a_z_letters a_z_row a_z_refused a_z_numbers : Nat) (z_hasImage : Int32) (z_letterMany : Int32) (z_rowMany : Int32) (z_reading : Int32) (z_seed : Int32) (z_s : Nat → Int32) (z_numbers : Nat → Int32) (p0 : Int32) (r : Int32) (n_z_s : Nat → Int32) (hf : fX5_isDone g p0 z_s z_numbers = some (r, n_z_s)) : Met l yX5_isDone wsX5_isDone rmX5_isDone (va_Pc [.ref a_z, .int p0] (sPc D (tyL cI cJ) [(a_z, .inr (5, [.ref a_z_s, .ref a_z_m, .ref a_z_image, .ref a_z_was, .int z_hasImage, .ref a_z_letters, .ref a_z_row, .ref a_z_refused, .int z_letterMany, .int z_rowMany, .int z_reading, .ref a_z_numbers, .int z_seed])), (a_z_s, .inl (cI, 45, .inl z_s)), (a_z_numbers, .inl (cI, 3, .inl z_numbers))] sz)) (qI D (tyL cI cJ) [(a_z, .inr (5, [.ref a_z_s, .ref a_z_m, .ref a_z_image, .ref a_z_was, .int z_hasImage, .ref a_z_letters, .ref a_z_row, .ref a_z_refused, .int z_letterMany, .int z_rowMany, .int z_reading, .ref a_z_numbers, .int z_seed])), (a_z_s, .inl (cI, 45, .inl z_s)), (a_z_numbers, .inl (cI, 3, .inl z_numbers))] sz [(a_z, .inr (5, [.ref a_z_s, .ref a_z_m, .ref a_z_image, .ref a_z_was, .int z_hasImage, .ref a_z_letters, .ref a_z_row, .ref a_z_refused, .int z_letterMany, .int z_rowMany, .int z_reading, .ref a_z_numbers, .int z_seed])), (a_z_s, .inl (cI, 45, .inl n_z_s)), (a_z_numbers, .inl (cI, 3, .inl z_numbers))] r) 0 0 (va_A [(a_z, .inr (5, [.ref a_z_s, .ref a_z_m, .ref a_z_image, .ref a_z_was, .int z_hasImage, .ref a_z_letters, .ref a_z_row, .ref a_z_refused, .int z_letterMany, .int z_rowMany, .int z_reading, .ref a_z_numbers, .int z_seed])), (a_z_s, .inl (cI, 45, .inl z_s)), (a_z_numbers, .inl (cI, 3, .inl z_numbers))] sz) := by
  refine st_i (cc := cX5_isDone) (maxL := 4) (by decide) rfl (Nat.le_of_ble_eq_true rfl) ?_
  intro p e s m args below meth c A Q F hret0 H locs hP hS ls hl
  have F : Cx p s m args c cX5_isDone 4 wsX5_isDone RX5 D (tyL cI cJ) A := F
  have hx := F.1.1
  have hb := F.1.2.1
  have hown := F.1.2.2.2.1
  have hts := F.1.2.2.2.2
  have iX5 : ∀ w ∈ wsX50, w ∈ wsX5_isDone := fun w h => (List.mem_cons_of_mem _ (List.mem_append_right _ h))
  have hret : ∀ (pc : Nat) (H : Heap) (locs : List Loc) (ls : Array Slot) (r' : Int32) (m_z_s : Nat → Int32), some (r', m_z_s) = some (r, n_z_s) → narrow .boolean (.int r') = .int r' → decode cX5_isDone pc = .ok (.ireturn, 1) → WD D A [(a_z, .inr (5, [.ref a_z_s, .ref a_z_m, .ref a_z_image, .ref a_z_was, .int z_hasImage, .ref a_z_letters, .ref a_z_row, .ref a_z_refused, .int z_letterMany, .int z_rowMany, .int z_reading, .ref a_z_numbers, .int z_seed])), (a_z_s, .inl (cI, 45, .inl m_z_s)), (a_z_numbers, .inl (cI, 3, .inl z_numbers))] H → va_S A s.heap H locs → W p l e rmX5_isDone s m args below meth c H locs 0 0 Q (F0 m pc ls [.int r']) := by
    intro pc H locs ls r' m_z_s h hn hd hP hS
    cases h
    exact hret0 pc H locs ls hn hd hP hS
  have hl : lv_has ls 4 [(0, .ref a_z), (1, .int p0)] := hl
  have h := hf
  unfold fX5_isDone at h
  refine lv_aload_n hx hb dX5_isDone_0 rfl (lv_at hl 0 rfl) ?_
  refine gt_X5_31 F iX5 (List.mem_cons_of_mem _ (List.mem_append_left _ (List.mem_append_left _ (List.mem_of_getElem? (i := 0) rfl)))) hP 0 rfl dX5_isDone_1 ?_
  refine lv_iconst (v := 0) hx hb dX5_isDone_4 (by decide) ?_
  refine r_ia F hP 2 rfl (j := 0) rfl (by decide) dX5_isDone_5 ?_
  refine lv_istore_n (lv' := [(2, .int (z_numbers 0)), (0, .ref a_z), (1, .int p0)]) hx hb dX5_isDone_6 rfl hl (by decide) rfl (fun ls hl => ?_)
  refine lv_aload_n hx hb dX5_isDone_7 rfl (lv_at hl 1 rfl) ?_
  refine gt_X5_31 F iX5 (List.mem_cons_of_mem _ (List.mem_append_left _ (List.mem_append_left _ (List.mem_of_getElem? (i := 0) rfl)))) hP 0 rfl dX5_isDone_8 ?_
  refine lv_iconst (v := 1) hx hb dX5_isDone_11 (by decide) ?_
  refine r_ia F hP 2 rfl (j := 1) rfl (by decide) dX5_isDone_12 ?_
  refine lv_istore_n (lv' := [(3, .int (z_numbers 1)), (2, .int (z_numbers 0)), (0, .ref a_z), (1, .int p0)]) hx hb dX5_isDone_13 rfl hl (by decide) rfl (fun ls hl => ?_)
  refine lv_iload_n hx hb dX5_isDone_14 rfl (lv_at hl 3 rfl) ?_
  by_cases hc48 : p0 = 97
  · have h := it_p hc48 h
    refine lv_tableIn (off := 216) (tgt := 231) hx hb dX5_isDone_15 (by rw [hc48]; decide) (by rw [hc48]; decide) (by rw [hc48]; rfl) (by decide) ?_
    refine lv_aload_n hx hb dX5_isDone_231 rfl (lv_at hl 2 rfl) ?_
    refine lv_iload_n hx hb dX5_isDone_232 rfl (lv_at hl 1 rfl) ?_
    obtain ⟨r88, hk89, h⟩ := bd1_e h
    refine cV_i (rest := []) F (kX5_isHand l D cI cJ H.size g a_z a_z_s a_z_m a_z_image a_z_was a_z_letters a_z_row a_z_refused a_z_numbers z_hasImage z_letterMany z_rowMany z_reading z_seed z_s (z_numbers 0) r88 hk89) (cwV 1 hts gX5_isDone_X5_isHand rfl rfl rfl eVX5_isHand ⟨Nat.le_of_ble_eq_true rfl, Nat.le_of_ble_eq_true rfl⟩) [0, 1] hP hS (by decide) rfl rfl 0 rfl rfl rfl hl.1 (Nat.le_of_ble_eq_true rfl) ⟨Nat.le_refl _, Nat.le_refl _⟩ rfl dX5_isDone_233 (fun H locs hP hS => ?_)
    have hP : WD D A [(a_z, .inr (5, [.ref a_z_s, .ref a_z_m, .ref a_z_image, .ref a_z_was, .int z_hasImage, .ref a_z_letters, .ref a_z_row, .ref a_z_refused, .int z_letterMany, .int z_rowMany, .int z_reading, .ref a_z_numbers, .int z_seed])), (a_z_s, .inl (cI, 45, .inl z_s)), (a_z_numbers, .inl (cI, 3, .inl z_numbers))] H := hP
    refine lv_if_ne (tgt := 241) hx hb dX5_isDone_236 (by decide) (fun hc90 => ?_) (fun hc90 => ?_)
    · have h := it_n hc90 h
      refine lv_aload_n hx hb dX5_isDone_241 rfl (lv_at hl 2 rfl) ?_
      refine gt_X5_9 F iX5 (List.mem_cons_of_mem _ (List.mem_append_left _ (List.mem_append_left _ (List.mem_of_getElem? (i := 1) rfl)))) hP 0 rfl dX5_isDone_242 ?_
      refine lv_iload_n hx hb dX5_isDone_245 rfl (lv_at hl 1 rfl) ?_
      refine lv_iconst (v := 4) hx hb dX5_isDone_246 (by decide) ?_
      obtain ⟨r91, hk92, h⟩ := bd1_e h
      refine cS_i (rest := [.ref a_z_s]) F (kX5_of l D cI cJ H.size g (z_numbers 0) 4 r91 hk92) (va_cwS 2 hts gX5_isDone_X5_of rfl rfl rfl eSX5_of ⟨Nat.le_of_ble_eq_true rfl, Nat.le_of_ble_eq_true rfl⟩) [] hP hS (by decide) rfl rfl rfl hl.1 (Nat.le_of_ble_eq_true rfl) ⟨Nat.le_refl _, Nat.le_refl _⟩ rfl dX5_isDone_247 (fun H locs hP hS => ?_)
      have hP : WD D A [(a_z, .inr (5, [.ref a_z_s, .ref a_z_m, .ref a_z_image, .ref a_z_was, .int z_hasImage, .ref a_z_letters, .ref a_z_row, .ref a_z_refused, .int z_letterMany, .int z_rowMany, .int z_reading, .ref a_z_numbers, .int z_seed])), (a_z_s, .inl (cI, 45, .inl z_s)), (a_z_numbers, .inl (cI, 3, .inl z_numbers))] H := hP
      refine lv_dup2_11 hx hb dX5_isDone_250 rfl rfl ?_
      obtain ⟨hg93, h⟩ := gd_e h
      refine r_ia F hP 1 rfl rfl hg93 dX5_isDone_251 ?_
      refine lv_iconst (v := 1) hx hb dX5_isDone_252 (by decide) ?_
      refine lv_ixor hx hb dX5_isDone_253 ?_
      obtain ⟨hg94, h⟩ := gd_e h
      refine r_is F hP hS 1 rfl rfl hg94 dX5_isDone_254 (fun H locs hP hS => ?_)
      have hP : WD D A [(a_z, .inr (5, [.ref a_z_s, .ref a_z_m, .ref a_z_image, .ref a_z_was, .int z_hasImage, .ref a_z_letters, .ref a_z_row, .ref a_z_refused, .int z_letterMany, .int z_rowMany, .int z_reading, .ref a_z_numbers, .int z_seed])), (a_z_s, .inl (cI, 45, .inl (upd z_s r91.toNatClampNeg ((z_s r91.toNatClampNeg) ^^^ 1)))), (a_z_numbers, .inl (cI, 3, .inl z_numbers))] H := hP
      refine lv_iconst (v := 1) hx hb dX5_isDone_255 (by decide) ?_
      exact hret 256 H locs ls 1 (upd z_s r91.toNatClampNeg ((z_s r91.toNatClampNeg) ^^^ 1)) h rfl dX5_isDone_256 hP hS
    · have h := it_p hc90 h
      refine lv_iconst (v := 0) hx hb dX5_isDone_239 (by decide) ?_
      exact hret 240 H locs ls 0 z_s h rfl dX5_isDone_240 hP hS
  · have h := it_n hc48 h
    by_cases hc49 : p0 = 104
    · have h := it_p hc49 h
      refine lv_tableIn (off := 135) (tgt := 150) hx hb dX5_isDone_15 (by rw [hc49]; decide) (by rw [hc49]; decide) (by rw [hc49]; rfl) (by decide) ?_
      refine lv_aload_n hx hb dX5_isDone_150 rfl (lv_at hl 2 rfl) ?_
      refine lv_aload_n hx hb dX5_isDone_151 rfl (lv_at hl 2 rfl) ?_
      refine gt_X5_31 F iX5 (List.mem_cons_of_mem _ (List.mem_append_left _ (List.mem_append_left _ (List.mem_of_getElem? (i := 0) rfl)))) hP 0 rfl dX5_isDone_152 ?_
      refine lv_iconst (v := 2) hx hb dX5_isDone_155 (by decide) ?_
      refine r_ia F hP 2 rfl (j := 2) rfl (by decide) dX5_isDone_156 ?_
      obtain ⟨r82, hk83, h⟩ := bd1_e h
      refine cV_i (rest := []) F (kX5_isPlace l D cI cJ H.size g a_z a_z_s a_z_m a_z_image a_z_was a_z_letters a_z_row a_z_refused a_z_numbers z_hasImage z_letterMany z_rowMany z_reading z_seed z_s (z_numbers 2) r82 hk83) (cwV 1 hts gX5_isDone_X5_isPlace rfl rfl rfl eVX5_isPlace ⟨Nat.le_of_ble_eq_true rfl, Nat.le_of_ble_eq_true rfl⟩) [0, 1] hP hS (by decide) rfl rfl 0 rfl rfl rfl hl.1 (Nat.le_of_ble_eq_true rfl) ⟨Nat.le_refl _, Nat.le_refl _⟩ rfl dX5_isDone_157 (fun H locs hP hS => ?_)
      have hP : WD D A [(a_z, .inr (5, [.ref a_z_s, .ref a_z_m, .ref a_z_image, .ref a_z_was, .int z_hasImage, .ref a_z_letters, .ref a_z_row, .ref a_z_refused, .int z_letterMany, .int z_rowMany, .int z_reading, .ref a_z_numbers, .int z_seed])), (a_z_s, .inl (cI, 45, .inl z_s)), (a_z_numbers, .inl (cI, 3, .inl z_numbers))] H := hP
      refine lv_if_eq (tgt := 174) hx hb dX5_isDone_160 (by decide) (fun hc84 => ?_) (fun hc84 => ?_)
      · have h := it_p hc84 h
        refine lv_iconst (v := 0) hx hb dX5_isDone_174 (by decide) ?_
        exact hret 175 H locs ls 0 z_s h rfl dX5_isDone_175 hP hS
      · have h := it_n hc84 h
        refine lv_aload_n hx hb dX5_isDone_163 rfl (lv_at hl 2 rfl) ?_
        refine gt_X5_9 F iX5 (List.mem_cons_of_mem _ (List.mem_append_left _ (List.mem_append_left _ (List.mem_of_getElem? (i := 1) rfl)))) hP 0 rfl dX5_isDone_164 ?_
        refine lv_iconst (v := 1) hx hb dX5_isDone_167 (by decide) ?_
        refine r_ia F hP 1 rfl (j := 1) rfl (by decide) dX5_isDone_168 ?_
        refine lv_bipush (v := 7) hx hb dX5_isDone_169 (by decide) ?_
        refine lv_icmp_ne (tgt := 176) hx hb dX5_isDone_171 (by decide) (fun hc85 => ?_) (fun hc85 => ?_)
        · have h := it_n hc85 h
          refine lv_aload_n hx hb dX5_isDone_176 rfl (lv_at hl 2 rfl) ?_
          refine gt_X5_9 F iX5 (List.mem_cons_of_mem _ (List.mem_append_left _ (List.mem_append_left _ (List.mem_of_getElem? (i := 1) rfl)))) hP 0 rfl dX5_isDone_177 ?_
          refine lv_iload_n hx hb dX5_isDone_180 rfl (lv_at hl 1 rfl) ?_
          refine lv_iload_n hx hb dX5_isDone_181 rfl (lv_at hl 0 rfl) ?_
          refine lv_aload_n hx hb dX5_isDone_182 rfl (lv_at hl 2 rfl) ?_
          refine gt_X5_31 F iX5 (List.mem_cons_of_mem _ (List.mem_append_left _ (List.mem_append_left _ (List.mem_of_getElem? (i := 0) rfl)))) hP 0 rfl dX5_isDone_183 ?_
          refine lv_iconst (v := 2) hx hb dX5_isDone_186 (by decide) ?_
          refine r_ia F hP 2 rfl (j := 2) rfl (by decide) dX5_isDone_187 ?_
          obtain ⟨z_s_86, hk87, h⟩ := bd1_e h
          refine cS_v (rest := []) F (kX5_adds l D cI cJ H.size g a_z_s z_s (z_numbers 0) (z_numbers 1) (z_numbers 2) z_s_86 hk87) (va_cwS 4 hts gX5_isDone_X5_adds rfl rfl rfl eSX5_adds ⟨Nat.le_of_ble_eq_true rfl, Nat.le_of_ble_eq_true rfl⟩) [1] hP hS (by decide) rfl rfl rfl hl.1 (Nat.le_of_ble_eq_true rfl) ⟨Nat.le_refl _, Nat.le_refl _⟩ rfl dX5_isDone_188 (fun H locs hP hS => ?_)
          have hP : WD D A [(a_z, .inr (5, [.ref a_z_s, .ref a_z_m, .ref a_z_image, .ref a_z_was, .int z_hasImage, .ref a_z_letters, .ref a_z_row, .ref a_z_refused, .int z_letterMany, .int z_rowMany, .int z_reading, .ref a_z_numbers, .int z_seed])), (a_z_s, .inl (cI, 45, .inl z_s_86)), (a_z_numbers, .inl (cI, 3, .inl z_numbers))] H := hP
          refine lv_iconst (v := 1) hx hb dX5_isDone_191 (by decide) ?_
          exact hret 192 H locs ls 1 z_s_86 h rfl dX5_isDone_192 hP hS
        · have h := it_p hc85 h
          refine lv_iconst (v := 0) hx hb dX5_isDone_174 (by decide) ?_
          exact hret 175 H locs ls 0 z_s h rfl dX5_isDone_175 hP hS
    · have h := it_n hc49 h
      by_cases hc50 : p0 = 108
      · have h := it_p hc50 h
        refine lv_tableIn (off := 196) (tgt := 211) hx hb dX5_isDone_15 (by rw [hc50]; decide) (by rw [hc50]; decide) (by rw [hc50]; rfl) (by decide) ?_
        refine lv_aload_n hx hb dX5_isDone_211 rfl (lv_at hl 2 rfl) ?_
        refine lv_iload_n hx hb dX5_isDone_212 rfl (lv_at hl 1 rfl) ?_
        obtain ⟨r77, hk78, h⟩ := bd1_e h
        refine cV_i (rest := []) F (kX5_isHand l D cI cJ H.size g a_z a_z_s a_z_m a_z_image a_z_was a_z_letters a_z_row a_z_refused a_z_numbers z_hasImage z_letterMany z_rowMany z_reading z_seed z_s (z_numbers 0) r77 hk78) (cwV 1 hts gX5_isDone_X5_isHand rfl rfl rfl eVX5_isHand ⟨Nat.le_of_ble_eq_true rfl, Nat.le_of_ble_eq_true rfl⟩) [0, 1] hP hS (by decide) rfl rfl 0 rfl rfl rfl hl.1 (Nat.le_of_ble_eq_true rfl) ⟨Nat.le_refl _, Nat.le_refl _⟩ rfl dX5_isDone_213 (fun H locs hP hS => ?_)
        have hP : WD D A [(a_z, .inr (5, [.ref a_z_s, .ref a_z_m, .ref a_z_image, .ref a_z_was, .int z_hasImage, .ref a_z_letters, .ref a_z_row, .ref a_z_refused, .int z_letterMany, .int z_rowMany, .int z_reading, .ref a_z_numbers, .int z_seed])), (a_z_s, .inl (cI, 45, .inl z_s)), (a_z_numbers, .inl (cI, 3, .inl z_numbers))] H := hP
        refine lv_if_ne (tgt := 221) hx hb dX5_isDone_216 (by decide) (fun hc79 => ?_) (fun hc79 => ?_)
        · have h := it_n hc79 h
          refine lv_aload_n hx hb dX5_isDone_221 rfl (lv_at hl 2 rfl) ?_
          refine gt_X5_9 F iX5 (List.mem_cons_of_mem _ (List.mem_append_left _ (List.mem_append_left _ (List.mem_of_getElem? (i := 1) rfl)))) hP 0 rfl dX5_isDone_222 ?_
          refine lv_iload_n hx hb dX5_isDone_225 rfl (lv_at hl 1 rfl) ?_
          obtain ⟨z_s_80, hk81, h⟩ := bd1_e h
          refine cS_v (rest := []) F (kX5_dropsIn l D cI cJ H.size g a_z_s z_s (z_numbers 0) z_s_80 hk81) (va_cwS 2 hts gX5_isDone_X5_dropsIn rfl rfl rfl eSX5_dropsIn ⟨Nat.le_of_ble_eq_true rfl, Nat.le_of_ble_eq_true rfl⟩) [1] hP hS (by decide) rfl rfl rfl hl.1 (Nat.le_of_ble_eq_true rfl) ⟨Nat.le_refl _, Nat.le_refl _⟩ rfl dX5_isDone_226 (fun H locs hP hS => ?_)
          have hP : WD D A [(a_z, .inr (5, [.ref a_z_s, .ref a_z_m, .ref a_z_image, .ref a_z_was, .int z_hasImage, .ref a_z_letters, .ref a_z_row, .ref a_z_refused, .int z_letterMany, .int z_rowMany, .int z_reading, .ref a_z_numbers, .int z_seed])), (a_z_s, .inl (cI, 45, .inl z_s_80)), (a_z_numbers, .inl (cI, 3, .inl z_numbers))] H := hP
          refine lv_iconst (v := 1) hx hb dX5_isDone_229 (by decide) ?_
          exact hret 230 H locs ls 1 z_s_80 h rfl dX5_isDone_230 hP hS
        · have h := it_p hc79 h
          refine lv_iconst (v := 0) hx hb dX5_isDone_219 (by decide) ?_
          exact hret 220 H locs ls 0 z_s h rfl dX5_isDone_220 hP hS
      · have h := it_n hc50 h
        by_cases hc51 : p0 = 109
        · have h := it_p hc51 h
          refine lv_tableIn (off := 242) (tgt := 257) hx hb dX5_isDone_15 (by rw [hc51]; decide) (by rw [hc51]; decide) (by rw [hc51]; rfl) (by decide) ?_
          refine lv_aload_n hx hb dX5_isDone_257 rfl (lv_at hl 2 rfl) ?_
          refine lv_iload_n hx hb dX5_isDone_258 rfl (lv_at hl 1 rfl) ?_
          obtain ⟨r68, hk69, h⟩ := bd1_e h
          refine cV_i (rest := []) F (kX5_isHand l D cI cJ H.size g a_z a_z_s a_z_m a_z_image a_z_was a_z_letters a_z_row a_z_refused a_z_numbers z_hasImage z_letterMany z_rowMany z_reading z_seed z_s (z_numbers 0) r68 hk69) (cwV 1 hts gX5_isDone_X5_isHand rfl rfl rfl eVX5_isHand ⟨Nat.le_of_ble_eq_true rfl, Nat.le_of_ble_eq_true rfl⟩) [0, 1] hP hS (by decide) rfl rfl 0 rfl rfl rfl hl.1 (Nat.le_of_ble_eq_true rfl) ⟨Nat.le_refl _, Nat.le_refl _⟩ rfl dX5_isDone_259 (fun H locs hP hS => ?_)
          have hP : WD D A [(a_z, .inr (5, [.ref a_z_s, .ref a_z_m, .ref a_z_image, .ref a_z_was, .int z_hasImage, .ref a_z_letters, .ref a_z_row, .ref a_z_refused, .int z_letterMany, .int z_rowMany, .int z_reading, .ref a_z_numbers, .int z_seed])), (a_z_s, .inl (cI, 45, .inl z_s)), (a_z_numbers, .inl (cI, 3, .inl z_numbers))] H := hP
          refine lv_if_eq (tgt := 273) hx hb dX5_isDone_262 (by decide) (fun hc70 => ?_) (fun hc70 => ?_)
          · have h := it_p hc70 h
            refine lv_iconst (v := 0) hx hb dX5_isDone_273 (by decide) ?_
            exact hret 274 H locs ls 0 z_s h rfl dX5_isDone_274 hP hS
          · have h := it_n hc70 h
            refine lv_aload_n hx hb dX5_isDone_265 rfl (lv_at hl 2 rfl) ?_
            refine lv_iload_n hx hb dX5_isDone_266 rfl (lv_at hl 0 rfl) ?_
            obtain ⟨r71, hk72, h⟩ := bd1_e h
            refine cV_i (rest := []) F (kX5_isPlace l D cI cJ H.size g a_z a_z_s a_z_m a_z_image a_z_was a_z_letters a_z_row a_z_refused a_z_numbers z_hasImage z_letterMany z_rowMany z_reading z_seed z_s (z_numbers 1) r71 hk72) (cwV 1 hts gX5_isDone_X5_isPlace rfl rfl rfl eVX5_isPlace ⟨Nat.le_of_ble_eq_true rfl, Nat.le_of_ble_eq_true rfl⟩) [0, 1] hP hS (by decide) rfl rfl 0 rfl rfl rfl hl.1 (Nat.le_of_ble_eq_true rfl) ⟨Nat.le_refl _, Nat.le_refl _⟩ rfl dX5_isDone_267 (fun H locs hP hS => ?_)
            have hP : WD D A [(a_z, .inr (5, [.ref a_z_s, .ref a_z_m, .ref a_z_image, .ref a_z_was, .int z_hasImage, .ref a_z_letters, .ref a_z_row, .ref a_z_refused, .int z_letterMany, .int z_rowMany, .int z_reading, .ref a_z_numbers, .int z_seed])), (a_z_s, .inl (cI, 45, .inl z_s)), (a_z_numbers, .inl (cI, 3, .inl z_numbers))] H := hP
            refine lv_if_ne (tgt := 275) hx hb dX5_isDone_270 (by decide) (fun hc73 => ?_) (fun hc73 => ?_)
            · have h := it_n hc73 h
              refine lv_aload_n hx hb dX5_isDone_275 rfl (lv_at hl 2 rfl) ?_
              refine gt_X5_9 F iX5 (List.mem_cons_of_mem _ (List.mem_append_left _ (List.mem_append_left _ (List.mem_of_getElem? (i := 1) rfl)))) hP 0 rfl dX5_isDone_276 ?_
              refine lv_iload_n hx hb dX5_isDone_279 rfl (lv_at hl 1 rfl) ?_
              refine lv_iconst (v := 2) hx hb dX5_isDone_280 (by decide) ?_
              obtain ⟨r74, hk75, h⟩ := bd1_e h
              refine cS_i (rest := [.ref a_z_s]) F (kX5_of l D cI cJ H.size g (z_numbers 0) 2 r74 hk75) (va_cwS 2 hts gX5_isDone_X5_of rfl rfl rfl eSX5_of ⟨Nat.le_of_ble_eq_true rfl, Nat.le_of_ble_eq_true rfl⟩) [] hP hS (by decide) rfl rfl rfl hl.1 (Nat.le_of_ble_eq_true rfl) ⟨Nat.le_refl _, Nat.le_refl _⟩ rfl dX5_isDone_281 (fun H locs hP hS => ?_)
              have hP : WD D A [(a_z, .inr (5, [.ref a_z_s, .ref a_z_m, .ref a_z_image, .ref a_z_was, .int z_hasImage, .ref a_z_letters, .ref a_z_row, .ref a_z_refused, .int z_letterMany, .int z_rowMany, .int z_reading, .ref a_z_numbers, .int z_seed])), (a_z_s, .inl (cI, 45, .inl z_s)), (a_z_numbers, .inl (cI, 3, .inl z_numbers))] H := hP
              refine lv_iload_n hx hb dX5_isDone_284 rfl (lv_at hl 0 rfl) ?_
              obtain ⟨hg76, h⟩ := gd_e h
              refine r_is F hP hS 1 rfl rfl hg76 dX5_isDone_285 (fun H locs hP hS => ?_)
              have hP : WD D A [(a_z, .inr (5, [.ref a_z_s, .ref a_z_m, .ref a_z_image, .ref a_z_was, .int z_hasImage, .ref a_z_letters, .ref a_z_row, .ref a_z_refused, .int z_letterMany, .int z_rowMany, .int z_reading, .ref a_z_numbers, .int z_seed])), (a_z_s, .inl (cI, 45, .inl (upd z_s r74.toNatClampNeg (z_numbers 1)))), (a_z_numbers, .inl (cI, 3, .inl z_numbers))] H := hP
              refine lv_iconst (v := 1) hx hb dX5_isDone_286 (by decide) ?_
              exact hret 287 H locs ls 1 (upd z_s r74.toNatClampNeg (z_numbers 1)) h rfl dX5_isDone_287 hP hS
            · have h := it_p hc73 h
              refine lv_iconst (v := 0) hx hb dX5_isDone_273 (by decide) ?_
              exact hret 274 H locs ls 0 z_s h rfl dX5_isDone_274 hP hS
        · have h := it_n hc51 h
          by_cases hc52 : p0 = 112
          · have h := it_p hc52 h
            refine lv_tableIn (off := 89) (tgt := 104) hx hb dX5_isDone_15 (by rw [hc52]; decide) (by rw [hc52]; decide) (by rw [hc52]; rfl) (by decide) ?_
            refine lv_iload_n hx hb dX5_isDone_104 rfl (lv_at hl 1 rfl) ?_
            obtain ⟨r63, hk64, h⟩ := bd1_e h
            refine cS_i (rest := []) F (kX5_isCell l D cI cJ H.size g (z_numbers 0) r63 hk64) (va_cwS 1 hts gX5_isDone_X5_isCell rfl rfl rfl eSX5_isCell ⟨Nat.le_of_ble_eq_true rfl, Nat.le_of_ble_eq_true rfl⟩) [] hP hS (by decide) rfl rfl rfl hl.1 (Nat.le_of_ble_eq_true rfl) ⟨Nat.le_refl _, Nat.le_refl _⟩ rfl dX5_isDone_105 (fun H locs hP hS => ?_)
            have hP : WD D A [(a_z, .inr (5, [.ref a_z_s, .ref a_z_m, .ref a_z_image, .ref a_z_was, .int z_hasImage, .ref a_z_letters, .ref a_z_row, .ref a_z_refused, .int z_letterMany, .int z_rowMany, .int z_reading, .ref a_z_numbers, .int z_seed])), (a_z_s, .inl (cI, 45, .inl z_s)), (a_z_numbers, .inl (cI, 3, .inl z_numbers))] H := hP
            refine lv_if_eq (tgt := 122) hx hb dX5_isDone_108 (by decide) (fun hc65 => ?_) (fun hc65 => ?_)
            · have h := it_p hc65 h
              refine lv_iconst (v := 0) hx hb dX5_isDone_122 (by decide) ?_
              exact hret 123 H locs ls 0 z_s h rfl dX5_isDone_123 hP hS
            · have h := it_n hc65 h
              refine lv_aload_n hx hb dX5_isDone_111 rfl (lv_at hl 2 rfl) ?_
              refine gt_X5_9 F iX5 (List.mem_cons_of_mem _ (List.mem_append_left _ (List.mem_append_left _ (List.mem_of_getElem? (i := 1) rfl)))) hP 0 rfl dX5_isDone_112 ?_
              refine lv_iconst (v := 0) hx hb dX5_isDone_115 (by decide) ?_
              refine r_ia F hP 1 rfl (j := 0) rfl (by decide) dX5_isDone_116 ?_
              refine lv_bipush (v := 6) hx hb dX5_isDone_117 (by decide) ?_
              refine lv_icmp_ne (tgt := 124) hx hb dX5_isDone_119 (by decide) (fun hc66 => ?_) (fun hc66 => ?_)
              · have h := it_n hc66 h
                refine lv_aload_n hx hb dX5_isDone_124 rfl (lv_at hl 2 rfl) ?_
                refine gt_X5_9 F iX5 (List.mem_cons_of_mem _ (List.mem_append_left _ (List.mem_append_left _ (List.mem_of_getElem? (i := 1) rfl)))) hP 0 rfl dX5_isDone_125 ?_
                refine lv_iconst (v := 4) hx hb dX5_isDone_128 (by decide) ?_
                refine lv_aload_n hx hb dX5_isDone_129 rfl (lv_at hl 2 rfl) ?_
                refine gt_X5_9 F iX5 (List.mem_cons_of_mem _ (List.mem_append_left _ (List.mem_append_left _ (List.mem_of_getElem? (i := 1) rfl)))) hP 0 rfl dX5_isDone_130 ?_
                refine lv_iconst (v := 0) hx hb dX5_isDone_133 (by decide) ?_
                refine r_ia F hP 1 rfl (j := 0) rfl (by decide) dX5_isDone_134 ?_
                refine lv_iadd hx hb dX5_isDone_135 ?_
                refine lv_iload_n hx hb dX5_isDone_136 rfl (lv_at hl 1 rfl) ?_
                obtain ⟨hg67, h⟩ := gd_e h
                refine r_is F hP hS 1 rfl rfl hg67 dX5_isDone_137 (fun H locs hP hS => ?_)
                have hP : WD D A [(a_z, .inr (5, [.ref a_z_s, .ref a_z_m, .ref a_z_image, .ref a_z_was, .int z_hasImage, .ref a_z_letters, .ref a_z_row, .ref a_z_refused, .int z_letterMany, .int z_rowMany, .int z_reading, .ref a_z_numbers, .int z_seed])), (a_z_s, .inl (cI, 45, .inl (upd z_s (4 + (z_s 0)).toNatClampNeg (z_numbers 0)))), (a_z_numbers, .inl (cI, 3, .inl z_numbers))] H := hP
                refine lv_aload_n hx hb dX5_isDone_138 rfl (lv_at hl 2 rfl) ?_
                refine gt_X5_9 F iX5 (List.mem_cons_of_mem _ (List.mem_append_left _ (List.mem_append_left _ (List.mem_of_getElem? (i := 1) rfl)))) hP 0 rfl dX5_isDone_139 ?_
                refine lv_iconst (v := 0) hx hb dX5_isDone_142 (by decide) ?_
                refine lv_dup2_11 hx hb dX5_isDone_143 rfl rfl ?_
                refine r_ia F hP 1 rfl (j := 0) rfl (by decide) dX5_isDone_144 ?_
                refine lv_iconst (v := 1) hx hb dX5_isDone_145 (by decide) ?_
                refine lv_iadd hx hb dX5_isDone_146 ?_
                refine r_is F hP hS 1 rfl (j := 0) rfl (by decide) dX5_isDone_147 (fun H locs hP hS => ?_)
                have hP : WD D A [(a_z, .inr (5, [.ref a_z_s, .ref a_z_m, .ref a_z_image, .ref a_z_was, .int z_hasImage, .ref a_z_letters, .ref a_z_row, .ref a_z_refused, .int z_letterMany, .int z_rowMany, .int z_reading, .ref a_z_numbers, .int z_seed])), (a_z_s, .inl (cI, 45, .inl (upd (upd z_s (4 + (z_s 0)).toNatClampNeg (z_numbers 0)) 0 (((upd z_s (4 + (z_s 0)).toNatClampNeg (z_numbers 0)) 0) + 1)))), (a_z_numbers, .inl (cI, 3, .inl z_numbers))] H := hP
                refine lv_iconst (v := 1) hx hb dX5_isDone_148 (by decide) ?_
                exact hret 149 H locs ls 1 (upd (upd z_s (4 + (z_s 0)).toNatClampNeg (z_numbers 0)) 0 (((upd z_s (4 + (z_s 0)).toNatClampNeg (z_numbers 0)) 0) + 1)) h rfl dX5_isDone_149 hP hS
              · have h := it_p hc66 h
                refine lv_iconst (v := 0) hx hb dX5_isDone_122 (by decide) ?_
                exact hret 123 H locs ls 0 z_s h rfl dX5_isDone_123 hP hS
          · have h := it_n hc52 h
            by_cases hc53 : p0 = 115
            · have h := it_p hc53 h
              refine lv_tableIn (off := 178) (tgt := 193) hx hb dX5_isDone_15 (by rw [hc53]; decide) (by rw [hc53]; decide) (by rw [hc53]; rfl) (by decide) ?_
              refine lv_iload_n hx hb dX5_isDone_193 rfl (lv_at hl 1 rfl) ?_
              obtain ⟨r60, hk61, h⟩ := bd1_e h
              refine cS_i (rest := []) F (kX5_isCell l D cI cJ H.size g (z_numbers 0) r60 hk61) (va_cwS 1 hts gX5_isDone_X5_isCell rfl rfl rfl eSX5_isCell ⟨Nat.le_of_ble_eq_true rfl, Nat.le_of_ble_eq_true rfl⟩) [] hP hS (by decide) rfl rfl rfl hl.1 (Nat.le_of_ble_eq_true rfl) ⟨Nat.le_refl _, Nat.le_refl _⟩ rfl dX5_isDone_194 (fun H locs hP hS => ?_)
              have hP : WD D A [(a_z, .inr (5, [.ref a_z_s, .ref a_z_m, .ref a_z_image, .ref a_z_was, .int z_hasImage, .ref a_z_letters, .ref a_z_row, .ref a_z_refused, .int z_letterMany, .int z_rowMany, .int z_reading, .ref a_z_numbers, .int z_seed])), (a_z_s, .inl (cI, 45, .inl z_s)), (a_z_numbers, .inl (cI, 3, .inl z_numbers))] H := hP
              refine lv_if_ne (tgt := 202) hx hb dX5_isDone_197 (by decide) (fun hc62 => ?_) (fun hc62 => ?_)
              · have h := it_n hc62 h
                refine lv_aload_n hx hb dX5_isDone_202 rfl (lv_at hl 2 rfl) ?_
                refine gt_X5_9 F iX5 (List.mem_cons_of_mem _ (List.mem_append_left _ (List.mem_append_left _ (List.mem_of_getElem? (i := 1) rfl)))) hP 0 rfl dX5_isDone_203 ?_
                refine lv_iconst (v := 3) hx hb dX5_isDone_206 (by decide) ?_
                refine lv_iload_n hx hb dX5_isDone_207 rfl (lv_at hl 1 rfl) ?_
                refine r_is F hP hS 1 rfl (j := 3) rfl (by decide) dX5_isDone_208 (fun H locs hP hS => ?_)
                have hP : WD D A [(a_z, .inr (5, [.ref a_z_s, .ref a_z_m, .ref a_z_image, .ref a_z_was, .int z_hasImage, .ref a_z_letters, .ref a_z_row, .ref a_z_refused, .int z_letterMany, .int z_rowMany, .int z_reading, .ref a_z_numbers, .int z_seed])), (a_z_s, .inl (cI, 45, .inl (upd z_s 3 (z_numbers 0)))), (a_z_numbers, .inl (cI, 3, .inl z_numbers))] H := hP
                refine lv_iconst (v := 1) hx hb dX5_isDone_209 (by decide) ?_
                exact hret 210 H locs ls 1 (upd z_s 3 (z_numbers 0)) h rfl dX5_isDone_210 hP hS
              · have h := it_p hc62 h
                refine lv_iconst (v := 0) hx hb dX5_isDone_200 (by decide) ?_
                exact hret 201 H locs ls 0 z_s h rfl dX5_isDone_201 hP hS
            · have h := it_n hc53 h
              refine lv_tabD (tgt := 288) [97, 104, 108, 109, 112, 115] hx hb dX5_isDone_15 (by decide) (by decide) (List.forall_mem_cons.mpr ⟨lv_neT hc48 (by decide), List.forall_mem_cons.mpr ⟨lv_neT hc49 (by decide), List.forall_mem_cons.mpr ⟨lv_neT hc50 (by decide), List.forall_mem_cons.mpr ⟨lv_neT hc51 (by decide), List.forall_mem_cons.mpr ⟨lv_neT hc52 (by decide), List.forall_mem_cons.mpr ⟨lv_neT hc53 (by decide), fun _ h9 => absurd h9 List.not_mem_nil⟩⟩⟩⟩⟩⟩) (by decide) ?_
              refine lv_iload_n hx hb dX5_isDone_288 rfl (lv_at hl 1 rfl) ?_
              refine lv_iconst (v := 1) hx hb dX5_isDone_289 (by decide) ?_
              refine lv_bipush (v := 60) hx hb dX5_isDone_290 (by decide) ?_
              obtain ⟨r54, hk55, h⟩ := bd1_e h
              refine cS_i (rest := []) F (kX5_isIn l D cI cJ H.size g (z_numbers 0) 1 60 r54 hk55) (va_cwS 3 hts gX5_isDone_X5_isIn rfl rfl rfl eSX5_isIn ⟨Nat.le_of_ble_eq_true rfl, Nat.le_of_ble_eq_true rfl⟩) [] hP hS (by decide) rfl rfl rfl hl.1 (Nat.le_of_ble_eq_true rfl) ⟨Nat.le_refl _, Nat.le_refl _⟩ rfl dX5_isDone_292 (fun H locs hP hS => ?_)
              have hP : WD D A [(a_z, .inr (5, [.ref a_z_s, .ref a_z_m, .ref a_z_image, .ref a_z_was, .int z_hasImage, .ref a_z_letters, .ref a_z_row, .ref a_z_refused, .int z_letterMany, .int z_rowMany, .int z_reading, .ref a_z_numbers, .int z_seed])), (a_z_s, .inl (cI, 45, .inl z_s)), (a_z_numbers, .inl (cI, 3, .inl z_numbers))] H := hP
              refine lv_if_eq (tgt := 312) hx hb dX5_isDone_295 (by decide) (fun hc56 => ?_) (fun hc56 => ?_)
              · have h := it_p hc56 h
                refine lv_iconst (v := 0) hx hb dX5_isDone_312 (by decide) ?_
                exact hret 313 H locs ls 0 z_s h rfl dX5_isDone_313 hP hS
              · have h := it_n hc56 h
                refine lv_aload_n hx hb dX5_isDone_298 rfl (lv_at hl 2 rfl) ?_
                refine gt_X5_9 F iX5 (List.mem_cons_of_mem _ (List.mem_append_left _ (List.mem_append_left _ (List.mem_of_getElem? (i := 1) rfl)))) hP 0 rfl dX5_isDone_299 ?_
                refine lv_iconst (v := 2) hx hb dX5_isDone_302 (by decide) ?_
                refine r_ia F hP 1 rfl (j := 2) rfl (by decide) dX5_isDone_303 ?_
                refine lv_iload_n hx hb dX5_isDone_304 rfl (lv_at hl 1 rfl) ?_
                refine lv_iadd hx hb dX5_isDone_305 ?_
                refine lv_sipush (v := 999) hx hb dX5_isDone_306 (by decide) ?_
                refine lv_icmp_le (tgt := 314) hx hb dX5_isDone_309 (by decide) (fun hc57 => ?_) (fun hc57 => ?_)
                · have h := it_p hc57 h
                  refine lv_aload_n hx hb dX5_isDone_314 rfl (lv_at hl 2 rfl) ?_
                  refine gt_X5_9 F iX5 (List.mem_cons_of_mem _ (List.mem_append_left _ (List.mem_append_left _ (List.mem_of_getElem? (i := 1) rfl)))) hP 0 rfl dX5_isDone_315 ?_
                  refine lv_iload_n hx hb dX5_isDone_318 rfl (lv_at hl 1 rfl) ?_
                  obtain ⟨z_s_58, hk59, h⟩ := bd1_e h
                  refine cS_v (rest := []) F (kX5_daysOn l D cI cJ H.size g a_z_s z_s (z_numbers 0) z_s_58 hk59) (va_cwS 2 hts gX5_isDone_X5_daysOn rfl rfl rfl eSX5_daysOn ⟨Nat.le_of_ble_eq_true rfl, Nat.le_of_ble_eq_true rfl⟩) [1] hP hS (by decide) rfl rfl rfl hl.1 (Nat.le_of_ble_eq_true rfl) ⟨Nat.le_refl _, Nat.le_refl _⟩ rfl dX5_isDone_319 (fun H locs hP hS => ?_)
                  have hP : WD D A [(a_z, .inr (5, [.ref a_z_s, .ref a_z_m, .ref a_z_image, .ref a_z_was, .int z_hasImage, .ref a_z_letters, .ref a_z_row, .ref a_z_refused, .int z_letterMany, .int z_rowMany, .int z_reading, .ref a_z_numbers, .int z_seed])), (a_z_s, .inl (cI, 45, .inl z_s_58)), (a_z_numbers, .inl (cI, 3, .inl z_numbers))] H := hP
                  refine lv_iconst (v := 1) hx hb dX5_isDone_322 (by decide) ?_
                  exact hret 323 H locs ls 1 z_s_58 h rfl dX5_isDone_323 hP hS
                · have h := it_n hc57 h
                  refine lv_iconst (v := 0) hx hb dX5_isDone_312 (by decide) ?_
                  exact hret 313 H locs ls 0 z_s h rfl dX5_isDone_313 hP hS
theorem eSX5_sea : yX5_sea.cls ≠ "java/lang/invoke/MethodHandle" ∧ yX5_sea.cls ≠ "java/lang/invoke/VarHandle" ∧ (parseMethodDescriptor yX5_sea.desc).map (fun d => d.parameters.length) = some 0 := by decide +kernel
theorem eVX5_sea : yX5_sea.cls = RX5 ∧ yX5_sea.cls ≠ "java/lang/invoke/MethodHandle" ∧ yX5_sea.cls ≠ "java/lang/invoke/VarHandle" ∧ (parseMethodDescriptor yX5_sea.desc).map (fun d => d.parameters.length) = some 0 := ⟨rfl, eSX5_sea⟩
abbrev rmX5_sea : Room := { frames := 8, cells := 0, slots := 0, locals := 180 }
def fX5_sea_L10_b (g : Nat) (z_letterMany_L10 : Int32) (z_letters : Nat → Int32) (self : Int32 → Int32 → Int32 → (Nat → Int32) → Option (Int32 × Int32 × Int32 × (Nat → Int32))) (x1_L10 : Int32) (x2_L10 : Int32) (z_reading_L10 : Int32) (z_numbers_L10 : Nat → Int32) : Option (Int32 × Int32 × Int32 × (Nat → Int32)) := bd3 (fX5_readsStatement g z_letterMany_L10 z_reading_L10 z_letters z_numbers_L10) fun r12 z_reading_13 z_numbers_14 => (if r12 = 0 then (if ((-1000) - z_reading_13) = (-9) then (if z_reading_13 < z_letterMany_L10 then (self (x1_L10 + 1) ((-1000) - z_reading_13) z_reading_13 z_numbers_14) else (some (x1_L10 + 1, (-1000) - z_reading_13, z_reading_13, z_numbers_14))) else (some (x1_L10 + 1, (-1000) - z_reading_13, z_reading_13, z_numbers_14))) else (if x2_L10 = (-9) then (if z_reading_13 < z_letterMany_L10 then (self (x1_L10 + 1) x2_L10 z_reading_13 z_numbers_14) else (some (x1_L10 + 1, x2_L10, z_reading_13, z_numbers_14))) else (some (x1_L10 + 1, x2_L10, z_reading_13, z_numbers_14))))
def fX5_sea_L10 (g : Nat) (z_letterMany_L10 : Int32) (z_letters : Nat → Int32) (n : Nat) : Int32 → Int32 → Int32 → (Nat → Int32) → Option (Int32 × Int32 × Int32 × (Nat → Int32)) := lp (fX5_sea_L10_b g z_letterMany_L10 z_letters) (fun _ _ _ _ => none) n
def fX5_sea_L62_b (g : Nat) (z_letterMany_L62 : Int32) (z_was_L62 : Nat → Int32) (z_letters : Nat → Int32) (self : Int32 → Int32 → (Nat → Int32) → (Nat → Int32) → Option (Int32 × Int32 × (Nat → Int32) × (Nat → Int32))) (x2_L62 : Int32) (z_reading_L62 : Int32) (z_s_L62 : Nat → Int32) (z_numbers_L62 : Nat → Int32) : Option (Int32 × Int32 × (Nat → Int32) × (Nat → Int32)) := if x2_L62 = (-9) then (if z_letterMany_L62 ≤ z_reading_L62 then (some (x2_L62, z_reading_L62, z_s_L62, z_numbers_L62)) else (bd1 (fX5_here g z_letterMany_L62 z_reading_L62 z_letters) fun r29 => (bd3 (fX5_readsStatement g z_letterMany_L62 z_reading_L62 z_letters z_numbers_L62) fun r31 z_reading_32 z_numbers_33 => (bd2 (fX5_isDone g r29 z_s_L62 z_numbers_33) fun r35 z_s_36 => (if r35 = 0 then (bd1 (fX5_copies g z_was_L62 z_s_36) fun z_s_39 => (self ((-2000) - z_reading_L62) z_reading_32 z_s_39 z_numbers_33)) else (self x2_L62 z_reading_32 z_s_36 z_numbers_33)))))) else (some (x2_L62, z_reading_L62, z_s_L62, z_numbers_L62))
def fX5_sea_L62 (g : Nat) (z_letterMany_L62 : Int32) (z_was_L62 : Nat → Int32) (z_letters : Nat → Int32) (n : Nat) : Int32 → Int32 → (Nat → Int32) → (Nat → Int32) → Option (Int32 × Int32 × (Nat → Int32) × (Nat → Int32)) := lp (fX5_sea_L62_b g z_letterMany_L62 z_was_L62 z_letters) (fun _ _ _ _ => none) n
def fX5_sea (g : Nat) (z_letterMany : Int32) (z_s : Nat → Int32) (z_was : Nat → Int32) (z_letters : Nat → Int32) (z_numbers : Nat → Int32) : Option (Int32 × Int32 × Int32 × (Nat → Int32) × (Nat → Int32) × (Nat → Int32)) := bd4 (fX5_sea_L10 g z_letterMany z_letters g 0 (-9) 0 z_numbers) fun t21 t22 t23 t24 => (bd1 (fX5_copies g z_s z_was) fun z_was_25 => (bd4 (fX5_sea_L62 g z_letterMany z_was_25 z_letters g t22 0 z_s t24) fun t41 t42 t43 t44 => (if t41 = (-9) then (some (t21, 0, t42, t43, z_was_25, t44)) else (some (t41, 0, t42, t43, z_was_25, t44)))))
set_option maxHeartbeats 4000000 in
set_option maxRecDepth 100000 in
theorem kX5_sea (l : Launch) (D : va_G) (cI cJ : ClassId) (sz g : Nat) (a_z a_z_s a_z_m a_z_image a_z_was a_z_letters a_z_row a_z_refused a_z_numbers : Nat) (z_hasImage : Int32) (z_letterMany : Int32) (z_rowMany : Int32) (z_reading : Int32) (z_seed : Int32) (z_s : Nat → Int32) (z_was : Nat → Int32) (z_letters : Nat → Int32) (z_numbers : Nat → Int32) (r : Int32) (n_z_letterMany : Int32) (n_z_reading : Int32) (n_z_s : Nat → Int32) (n_z_was : Nat → Int32) (n_z_numbers : Nat → Int32) (hf : fX5_sea g z_letterMany z_s z_was z_letters z_numbers = some (r, n_z_letterMany, n_z_reading, n_z_s, n_z_was, n_z_numbers)) : Met l yX5_sea wsX5_sea rmX5_sea (va_Pc [.ref a_z] (sPc D (tyL cI cJ) [(a_z, .inr (5, [.ref a_z_s, .ref a_z_m, .ref a_z_image, .ref a_z_was, .int z_hasImage, .ref a_z_letters, .ref a_z_row, .ref a_z_refused, .int z_letterMany, .int z_rowMany, .int z_reading, .ref a_z_numbers, .int z_seed])), (a_z_s, .inl (cI, 45, .inl z_s)), (a_z_was, .inl (cI, 45, .inl z_was)), (a_z_letters, .inl (cI, 96, .inl z_letters)), (a_z_numbers, .inl (cI, 3, .inl z_numbers))] sz)) (qI D (tyL cI cJ) [(a_z, .inr (5, [.ref a_z_s, .ref a_z_m, .ref a_z_image, .ref a_z_was, .int z_hasImage, .ref a_z_letters, .ref a_z_row, .ref a_z_refused, .int z_letterMany, .int z_rowMany, .int z_reading, .ref a_z_numbers, .int z_seed])), (a_z_s, .inl (cI, 45, .inl z_s)), (a_z_was, .inl (cI, 45, .inl z_was)), (a_z_letters, .inl (cI, 96, .inl z_letters)), (a_z_numbers, .inl (cI, 3, .inl z_numbers))] sz [(a_z, .inr (5, [.ref a_z_s, .ref a_z_m, .ref a_z_image, .ref a_z_was, .int z_hasImage, .ref a_z_letters, .ref a_z_row, .ref a_z_refused, .int n_z_letterMany, .int z_rowMany, .int n_z_reading, .ref a_z_numbers, .int z_seed])), (a_z_s, .inl (cI, 45, .inl n_z_s)), (a_z_was, .inl (cI, 45, .inl n_z_was)), (a_z_letters, .inl (cI, 96, .inl z_letters)), (a_z_numbers, .inl (cI, 3, .inl n_z_numbers))] r) 0 0 (va_A [(a_z, .inr (5, [.ref a_z_s, .ref a_z_m, .ref a_z_image, .ref a_z_was, .int z_hasImage, .ref a_z_letters, .ref a_z_row, .ref a_z_refused, .int z_letterMany, .int z_rowMany, .int z_reading, .ref a_z_numbers, .int z_seed])), (a_z_s, .inl (cI, 45, .inl z_s)), (a_z_was, .inl (cI, 45, .inl z_was)), (a_z_letters, .inl (cI, 96, .inl z_letters)), (a_z_numbers, .inl (cI, 3, .inl z_numbers))] sz) := by
  refine st_i (cc := cX5_sea) (maxL := 6) (by decide) rfl (Nat.le_of_ble_eq_true rfl) ?_
  intro p e s m args below meth c A Q F hret0 H locs hP hS ls hl
  have F : Cx p s m args c cX5_sea 6 wsX5_sea RX5 D (tyL cI cJ) A := F
  have hx := F.1.1
  have hb := F.1.2.1
  have hown := F.1.2.2.2.1
  have hts := F.1.2.2.2.2
  have iX5 : ∀ w ∈ wsX50, w ∈ wsX5_sea := fun w h => (List.mem_cons_of_mem _ (List.mem_append_right _ h))
  have hret : ∀ (pc : Nat) (H : Heap) (locs : List Loc) (ls : Array Slot) (r' : Int32) (m_z_letterMany : Int32) (m_z_reading : Int32) (m_z_s : Nat → Int32) (m_z_was : Nat → Int32) (m_z_numbers : Nat → Int32), some (r', m_z_letterMany, m_z_reading, m_z_s, m_z_was, m_z_numbers) = some (r, n_z_letterMany, n_z_reading, n_z_s, n_z_was, n_z_numbers) → narrow .int (.int r') = .int r' → decode cX5_sea pc = .ok (.ireturn, 1) → WD D A [(a_z, .inr (5, [.ref a_z_s, .ref a_z_m, .ref a_z_image, .ref a_z_was, .int z_hasImage, .ref a_z_letters, .ref a_z_row, .ref a_z_refused, .int m_z_letterMany, .int z_rowMany, .int m_z_reading, .ref a_z_numbers, .int z_seed])), (a_z_s, .inl (cI, 45, .inl m_z_s)), (a_z_was, .inl (cI, 45, .inl m_z_was)), (a_z_letters, .inl (cI, 96, .inl z_letters)), (a_z_numbers, .inl (cI, 3, .inl m_z_numbers))] H → va_S A s.heap H locs → W p l e rmX5_sea s m args below meth c H locs 0 0 Q (F0 m pc ls [.int r']) := by
    intro pc H locs ls r' m_z_letterMany m_z_reading m_z_s m_z_was m_z_numbers h hn hd hP hS
    cases h
    exact hret0 pc H locs ls hn hd hP hS
  have L10 : ∀ (z_letterMany_L10 : Int32) (z_s_L10 : Nat → Int32) (z_was_L10 : Nat → Int32) (n : Nat) (x1_L10 : Int32) (x2_L10 : Int32) (z_reading_L10 : Int32) (z_numbers_L10 : Nat → Int32) (tt0 : Int32) (tt1 : Int32) (tt2 : Int32) (tt3 : Nat → Int32) (H : Heap) (locs : List Loc) (ls : Array Slot), fX5_sea_L10 g z_letterMany_L10 z_letters n x1_L10 x2_L10 z_reading_L10 z_numbers_L10 = some (tt0, tt1, tt2, tt3) → WD D A [(a_z, .inr (5, [.ref a_z_s, .ref a_z_m, .ref a_z_image, .ref a_z_was, .int z_hasImage, .ref a_z_letters, .ref a_z_row, .ref a_z_refused, .int z_letterMany_L10, .int z_rowMany, .int z_reading_L10, .ref a_z_numbers, .int z_seed])), (a_z_s, .inl (cI, 45, .inl z_s_L10)), (a_z_was, .inl (cI, 45, .inl z_was_L10)), (a_z_letters, .inl (cI, 96, .inl z_letters)), (a_z_numbers, .inl (cI, 3, .inl z_numbers_L10))] H → va_S A s.heap H locs → lv_has ls 6 [(0, .ref a_z), (1, .int x1_L10), (2, .int x2_L10)] → (∀ (H : Heap) (locs : List Loc) (ls : Array Slot), WD D A [(a_z, .inr (5, [.ref a_z_s, .ref a_z_m, .ref a_z_image, .ref a_z_was, .int z_hasImage, .ref a_z_letters, .ref a_z_row, .ref a_z_refused, .int z_letterMany_L10, .int z_rowMany, .int tt2, .ref a_z_numbers, .int z_seed])), (a_z_s, .inl (cI, 45, .inl z_s_L10)), (a_z_was, .inl (cI, 45, .inl z_was_L10)), (a_z_letters, .inl (cI, 96, .inl z_letters)), (a_z_numbers, .inl (cI, 3, .inl tt3))] H → va_S A s.heap H locs → lv_has ls 6 [(0, .ref a_z), (1, .int tt0), (2, .int tt1)] → W p l e rmX5_sea s m args below meth c H locs 0 0 Q (F0 m 46 ls [])) → W p l e rmX5_sea s m args below meth c H locs 0 0 Q (F0 m 10 ls []) := by
    intro z_letterMany_L10 z_s_L10 z_was_L10 n
    induction n with
    | zero =>
      intro x1_L10 x2_L10 z_reading_L10 z_numbers_L10 tt0 tt1 tt2 tt3 H locs ls h
      exact (no_some h).elim
    | succ n ih =>
      intro x1_L10 x2_L10 z_reading_L10 z_numbers_L10 tt0 tt1 tt2 tt3 H locs ls h hP hS hl kE
      have h : fX5_sea_L10_b g z_letterMany_L10 z_letters (fX5_sea_L10 g z_letterMany_L10 z_letters n) x1_L10 x2_L10 z_reading_L10 z_numbers_L10 = some (tt0, tt1, tt2, tt3) := h
      unfold fX5_sea_L10_b at h
      refine lv_aload_n hx hb dX5_sea_10 rfl (lv_at hl 0 rfl) ?_
      obtain ⟨r12, z_reading_13, z_numbers_14, hk15, h⟩ := bd3_e h
      refine cV_i (rest := []) F (kX5_readsStatement l D cI cJ H.size g a_z a_z_s a_z_m a_z_image a_z_was a_z_letters a_z_row a_z_refused a_z_numbers z_hasImage z_letterMany_L10 z_rowMany z_reading_L10 z_seed z_letters z_numbers_L10 r12 z_reading_13 z_numbers_14 hk15) (cwV 0 hts gX5_sea_X5_readsStatement rfl rfl rfl eVX5_readsStatement ⟨Nat.le_of_ble_eq_true rfl, Nat.le_of_ble_eq_true rfl⟩) [0, 3, 4] hP hS (by decide) rfl rfl 0 rfl rfl rfl hl.1 (Nat.le_of_ble_eq_true rfl) ⟨Nat.le_refl _, Nat.le_refl _⟩ rfl dX5_sea_11 (fun H locs hP hS => ?_)
      have hP : WD D A [(a_z, .inr (5, [.ref a_z_s, .ref a_z_m, .ref a_z_image, .ref a_z_was, .int z_hasImage, .ref a_z_letters, .ref a_z_row, .ref a_z_refused, .int z_letterMany_L10, .int z_rowMany, .int z_reading_13, .ref a_z_numbers, .int z_seed])), (a_z_s, .inl (cI, 45, .inl z_s_L10)), (a_z_was, .inl (cI, 45, .inl z_was_L10)), (a_z_letters, .inl (cI, 96, .inl z_letters)), (a_z_numbers, .inl (cI, 3, .inl z_numbers_14))] H := hP
      refine lv_if_ne (tgt := 26) hx hb dX5_sea_14 (by decide) (fun hc16 => ?_) (fun hc16 => ?_)
      · have h := it_n hc16 h
        refine lv_iinc (v := x1_L10 + 1) (lv' := [(1, .int (x1_L10 + 1)), (0, .ref a_z), (2, .int x2_L10)]) hx hb dX5_sea_26 hl (k := 1) rfl rfl (by decide) rfl (fun ls hl => ?_)
        refine lv_iload_n hx hb dX5_sea_29 rfl (lv_at hl 2 rfl) ?_
        refine lv_bipush (v := (-9)) hx hb dX5_sea_30 (by decide) ?_
        refine lv_icmp_ne (tgt := 46) hx hb dX5_sea_32 (by decide) (fun hc17 => ?_) (fun hc17 => ?_)
        · have h := it_n hc17 h
          cases h
          exact kE H locs ls hP hS (lv_sub hl [1, 0, 2] rfl)
        · have h := it_p hc17 h
          refine lv_aload_n hx hb dX5_sea_35 rfl (lv_at hl 1 rfl) ?_
          refine gt_X5_93 F iX5 (List.mem_cons_of_mem _ (List.mem_append_left _ (List.mem_append_left _ (List.mem_of_getElem? (i := 0) rfl)))) hP 0 rfl dX5_sea_36 ?_
          refine lv_aload_n hx hb dX5_sea_39 rfl (lv_at hl 1 rfl) ?_
          refine gt_X5_89 F iX5 (List.mem_cons_of_mem _ (List.mem_append_left _ (List.mem_append_left _ (List.mem_of_getElem? (i := 1) rfl)))) hP 0 rfl dX5_sea_40 ?_
          refine lv_icmp_lt (tgt := 10) hx hb dX5_sea_43 (by decide) (fun hc18 => ?_) (fun hc18 => ?_)
          · have h := it_p hc18 h
            exact ih (x1_L10 + 1) x2_L10 z_reading_13 z_numbers_14 tt0 tt1 tt2 tt3 H locs ls h hP hS (lv_sub hl [1, 0, 2] rfl) kE
          · have h := it_n hc18 h
            cases h
            exact kE H locs ls hP hS (lv_sub hl [1, 0, 2] rfl)
      · have h := it_p hc16 h
        refine lv_sipush (v := (-1000)) hx hb dX5_sea_17 (by decide) ?_
        refine lv_aload_n hx hb dX5_sea_20 rfl (lv_at hl 0 rfl) ?_
        refine gt_X5_93 F iX5 (List.mem_cons_of_mem _ (List.mem_append_left _ (List.mem_append_left _ (List.mem_of_getElem? (i := 0) rfl)))) hP 0 rfl dX5_sea_21 ?_
        refine lv_isub hx hb dX5_sea_24 ?_
        refine lv_istore_n (lv' := [(2, .int ((-1000) - z_reading_13)), (0, .ref a_z), (1, .int x1_L10)]) hx hb dX5_sea_25 rfl hl (by decide) rfl (fun ls hl => ?_)
        refine lv_iinc (v := x1_L10 + 1) (lv' := [(1, .int (x1_L10 + 1)), (2, .int ((-1000) - z_reading_13)), (0, .ref a_z)]) hx hb dX5_sea_26 hl (k := 2) rfl rfl (by decide) rfl (fun ls hl => ?_)
        refine lv_iload_n hx hb dX5_sea_29 rfl (lv_at hl 1 rfl) ?_
        refine lv_bipush (v := (-9)) hx hb dX5_sea_30 (by decide) ?_
        refine lv_icmp_ne (tgt := 46) hx hb dX5_sea_32 (by decide) (fun hc19 => ?_) (fun hc19 => ?_)
        · have h := it_n hc19 h
          simp only [Option.some.injEq, Prod.mk.injEq] at h
          obtain ⟨rfl, rfl, rfl, rfl⟩ := h
          exact kE H locs ls hP hS (lv_sub hl [2, 0, 1] rfl)
        · have h := it_p hc19 h
          refine lv_aload_n hx hb dX5_sea_35 rfl (lv_at hl 2 rfl) ?_
          refine gt_X5_93 F iX5 (List.mem_cons_of_mem _ (List.mem_append_left _ (List.mem_append_left _ (List.mem_of_getElem? (i := 0) rfl)))) hP 0 rfl dX5_sea_36 ?_
          refine lv_aload_n hx hb dX5_sea_39 rfl (lv_at hl 2 rfl) ?_
          refine gt_X5_89 F iX5 (List.mem_cons_of_mem _ (List.mem_append_left _ (List.mem_append_left _ (List.mem_of_getElem? (i := 1) rfl)))) hP 0 rfl dX5_sea_40 ?_
          refine lv_icmp_lt (tgt := 10) hx hb dX5_sea_43 (by decide) (fun hc20 => ?_) (fun hc20 => ?_)
          · have h := it_p hc20 h
            exact ih (x1_L10 + 1) ((-1000) - z_reading_13) z_reading_13 z_numbers_14 tt0 tt1 tt2 tt3 H locs ls h hP hS (lv_sub hl [2, 0, 1] rfl) kE
          · have h := it_n hc20 h
            simp only [Option.some.injEq, Prod.mk.injEq] at h
            obtain ⟨rfl, rfl, rfl, rfl⟩ := h
            exact kE H locs ls hP hS (lv_sub hl [2, 0, 1] rfl)
  have L62 : ∀ (x1_L62 : Int32) (z_letterMany_L62 : Int32) (z_was_L62 : Nat → Int32) (n : Nat) (x2_L62 : Int32) (z_reading_L62 : Int32) (z_s_L62 : Nat → Int32) (z_numbers_L62 : Nat → Int32) (tt0 : Int32) (tt1 : Int32) (tt2 : Nat → Int32) (tt3 : Nat → Int32) (H : Heap) (locs : List Loc) (ls : Array Slot), fX5_sea_L62 g z_letterMany_L62 z_was_L62 z_letters n x2_L62 z_reading_L62 z_s_L62 z_numbers_L62 = some (tt0, tt1, tt2, tt3) → WD D A [(a_z, .inr (5, [.ref a_z_s, .ref a_z_m, .ref a_z_image, .ref a_z_was, .int z_hasImage, .ref a_z_letters, .ref a_z_row, .ref a_z_refused, .int z_letterMany_L62, .int z_rowMany, .int z_reading_L62, .ref a_z_numbers, .int z_seed])), (a_z_s, .inl (cI, 45, .inl z_s_L62)), (a_z_was, .inl (cI, 45, .inl z_was_L62)), (a_z_letters, .inl (cI, 96, .inl z_letters)), (a_z_numbers, .inl (cI, 3, .inl z_numbers_L62))] H → va_S A s.heap H locs → lv_has ls 6 [(0, .ref a_z), (1, .int x1_L62), (2, .int x2_L62)] → (∀ (H : Heap) (locs : List Loc) (ls : Array Slot), WD D A [(a_z, .inr (5, [.ref a_z_s, .ref a_z_m, .ref a_z_image, .ref a_z_was, .int z_hasImage, .ref a_z_letters, .ref a_z_row, .ref a_z_refused, .int z_letterMany_L62, .int z_rowMany, .int tt1, .ref a_z_numbers, .int z_seed])), (a_z_s, .inl (cI, 45, .inl tt2)), (a_z_was, .inl (cI, 45, .inl z_was_L62)), (a_z_letters, .inl (cI, 96, .inl z_letters)), (a_z_numbers, .inl (cI, 3, .inl tt3))] H → va_S A s.heap H locs → lv_has ls 6 [(0, .ref a_z), (1, .int x1_L62), (2, .int tt0)] → W p l e rmX5_sea s m args below meth c H locs 0 0 Q (F0 m 128 ls [])) → W p l e rmX5_sea s m args below meth c H locs 0 0 Q (F0 m 62 ls []) := by
    intro x1_L62 z_letterMany_L62 z_was_L62 n
    induction n with
    | zero =>
      intro x2_L62 z_reading_L62 z_s_L62 z_numbers_L62 tt0 tt1 tt2 tt3 H locs ls h
      exact (no_some h).elim
    | succ n ih =>
      intro x2_L62 z_reading_L62 z_s_L62 z_numbers_L62 tt0 tt1 tt2 tt3 H locs ls h hP hS hl kE
      have h : fX5_sea_L62_b g z_letterMany_L62 z_was_L62 z_letters (fX5_sea_L62 g z_letterMany_L62 z_was_L62 z_letters n) x2_L62 z_reading_L62 z_s_L62 z_numbers_L62 = some (tt0, tt1, tt2, tt3) := h
      unfold fX5_sea_L62_b at h
      refine lv_iload_n hx hb dX5_sea_62 rfl (lv_at hl 2 rfl) ?_
      refine lv_bipush (v := (-9)) hx hb dX5_sea_63 (by decide) ?_
      refine lv_icmp_ne (tgt := 128) hx hb dX5_sea_65 (by decide) (fun hc27 => ?_) (fun hc27 => ?_)
      · have h := it_n hc27 h
        cases h
        exact kE H locs ls hP hS (lv_sub hl [0, 1, 2] rfl)
      · have h := it_p hc27 h
        refine lv_aload_n hx hb dX5_sea_68 rfl (lv_at hl 0 rfl) ?_
        refine gt_X5_93 F iX5 (List.mem_cons_of_mem _ (List.mem_append_left _ (List.mem_append_left _ (List.mem_of_getElem? (i := 0) rfl)))) hP 0 rfl dX5_sea_69 ?_
        refine lv_aload_n hx hb dX5_sea_72 rfl (lv_at hl 0 rfl) ?_
        refine gt_X5_89 F iX5 (List.mem_cons_of_mem _ (List.mem_append_left _ (List.mem_append_left _ (List.mem_of_getElem? (i := 1) rfl)))) hP 0 rfl dX5_sea_73 ?_
        refine lv_icmp_ge (tgt := 128) hx hb dX5_sea_76 (by decide) (fun hc28 => ?_) (fun hc28 => ?_)
        · have h := it_p hc28 h
          cases h
          exact kE H locs ls hP hS (lv_sub hl [0, 1, 2] rfl)
        · have h := it_n hc28 h
          refine lv_aload_n hx hb dX5_sea_79 rfl (lv_at hl 0 rfl) ?_
          refine gt_X5_93 F iX5 (List.mem_cons_of_mem _ (List.mem_append_left _ (List.mem_append_left _ (List.mem_of_getElem? (i := 0) rfl)))) hP 0 rfl dX5_sea_80 ?_
          refine lv_istore_n (lv' := [(3, .int z_reading_L62), (0, .ref a_z), (1, .int x1_L62), (2, .int x2_L62)]) hx hb dX5_sea_83 rfl hl (by decide) rfl (fun ls hl => ?_)
          refine lv_aload_n hx hb dX5_sea_84 rfl (lv_at hl 1 rfl) ?_
          obtain ⟨r29, hk30, h⟩ := bd1_e h
          refine cV_i (rest := []) F (kX5_here l D cI cJ H.size g a_z a_z_s a_z_m a_z_image a_z_was a_z_letters a_z_row a_z_refused a_z_numbers z_hasImage z_letterMany_L62 z_rowMany z_reading_L62 z_seed z_letters r29 hk30) (cwV 0 hts gX5_sea_X5_here rfl rfl rfl eVX5_here ⟨Nat.le_of_ble_eq_true rfl, Nat.le_of_ble_eq_true rfl⟩) [0, 3] hP hS (by decide) rfl rfl 0 rfl rfl rfl hl.1 (Nat.le_of_ble_eq_true rfl) ⟨Nat.le_refl _, Nat.le_refl _⟩ rfl dX5_sea_85 (fun H locs hP hS => ?_)
          have hP : WD D A [(a_z, .inr (5, [.ref a_z_s, .ref a_z_m, .ref a_z_image, .ref a_z_was, .int z_hasImage, .ref a_z_letters, .ref a_z_row, .ref a_z_refused, .int z_letterMany_L62, .int z_rowMany, .int z_reading_L62, .ref a_z_numbers, .int z_seed])), (a_z_s, .inl (cI, 45, .inl z_s_L62)), (a_z_was, .inl (cI, 45, .inl z_was_L62)), (a_z_letters, .inl (cI, 96, .inl z_letters)), (a_z_numbers, .inl (cI, 3, .inl z_numbers_L62))] H := hP
          refine lv_istore (lv' := [(4, .int r29), (3, .int z_reading_L62), (0, .ref a_z), (1, .int x1_L62), (2, .int x2_L62)]) hx hb dX5_sea_88 hl (by decide) rfl (fun ls hl => ?_)
          refine lv_aload_n hx hb dX5_sea_90 rfl (lv_at hl 2 rfl) ?_
          obtain ⟨r31, z_reading_32, z_numbers_33, hk34, h⟩ := bd3_e h
          refine cV_i (rest := []) F (kX5_readsStatement l D cI cJ H.size g a_z a_z_s a_z_m a_z_image a_z_was a_z_letters a_z_row a_z_refused a_z_numbers z_hasImage z_letterMany_L62 z_rowMany z_reading_L62 z_seed z_letters z_numbers_L62 r31 z_reading_32 z_numbers_33 hk34) (cwV 0 hts gX5_sea_X5_readsStatement rfl rfl rfl eVX5_readsStatement ⟨Nat.le_of_ble_eq_true rfl, Nat.le_of_ble_eq_true rfl⟩) [0, 3, 4] hP hS (by decide) rfl rfl 0 rfl rfl rfl hl.1 (Nat.le_of_ble_eq_true rfl) ⟨Nat.le_refl _, Nat.le_refl _⟩ rfl dX5_sea_91 (fun H locs hP hS => ?_)
          have hP : WD D A [(a_z, .inr (5, [.ref a_z_s, .ref a_z_m, .ref a_z_image, .ref a_z_was, .int z_hasImage, .ref a_z_letters, .ref a_z_row, .ref a_z_refused, .int z_letterMany_L62, .int z_rowMany, .int z_reading_32, .ref a_z_numbers, .int z_seed])), (a_z_s, .inl (cI, 45, .inl z_s_L62)), (a_z_was, .inl (cI, 45, .inl z_was_L62)), (a_z_letters, .inl (cI, 96, .inl z_letters)), (a_z_numbers, .inl (cI, 3, .inl z_numbers_33))] H := hP
          refine lv_istore (lv' := [(5, .int r31), (4, .int r29), (3, .int z_reading_L62), (0, .ref a_z), (1, .int x1_L62), (2, .int x2_L62)]) hx hb dX5_sea_94 hl (by decide) rfl (fun ls hl => ?_)
          refine lv_aload_n hx hb dX5_sea_96 rfl (lv_at hl 3 rfl) ?_
          refine lv_iload hx hb dX5_sea_97 (lv_at hl 1 rfl) ?_
          obtain ⟨r35, z_s_36, hk37, h⟩ := bd2_e h
          refine cV_i (rest := []) F (kX5_isDone l D cI cJ H.size g a_z a_z_s a_z_m a_z_image a_z_was a_z_letters a_z_row a_z_refused a_z_numbers z_hasImage z_letterMany_L62 z_rowMany z_reading_32 z_seed z_s_L62 z_numbers_33 r29 r35 z_s_36 hk37) (cwV 1 hts gX5_sea_X5_isDone rfl rfl rfl eVX5_isDone ⟨Nat.le_of_ble_eq_true rfl, Nat.le_of_ble_eq_true rfl⟩) [0, 1, 4] hP hS (by decide) rfl rfl 0 rfl rfl rfl hl.1 (Nat.le_of_ble_eq_true rfl) ⟨Nat.le_refl _, Nat.le_refl _⟩ rfl dX5_sea_99 (fun H locs hP hS => ?_)
          have hP : WD D A [(a_z, .inr (5, [.ref a_z_s, .ref a_z_m, .ref a_z_image, .ref a_z_was, .int z_hasImage, .ref a_z_letters, .ref a_z_row, .ref a_z_refused, .int z_letterMany_L62, .int z_rowMany, .int z_reading_32, .ref a_z_numbers, .int z_seed])), (a_z_s, .inl (cI, 45, .inl z_s_36)), (a_z_was, .inl (cI, 45, .inl z_was_L62)), (a_z_letters, .inl (cI, 96, .inl z_letters)), (a_z_numbers, .inl (cI, 3, .inl z_numbers_33))] H := hP
          refine lv_if_eq (tgt := 108) hx hb dX5_sea_102 (by decide) (fun hc38 => ?_) (fun hc38 => ?_)
          · have h := it_p hc38 h
            refine lv_sipush (v := (-2000)) hx hb dX5_sea_108 (by decide) ?_
            refine lv_iload_n hx hb dX5_sea_111 rfl (lv_at hl 2 rfl) ?_
            refine lv_isub hx hb dX5_sea_112 ?_
            refine lv_istore_n (lv' := [(2, .int ((-2000) - z_reading_L62)), (5, .int r31), (4, .int r29), (3, .int z_reading_L62), (0, .ref a_z), (1, .int x1_L62)]) hx hb dX5_sea_113 rfl hl (by decide) rfl (fun ls hl => ?_)
            refine lv_aload_n hx hb dX5_sea_114 rfl (lv_at hl 4 rfl) ?_
            refine gt_X5_19 F iX5 (List.mem_cons_of_mem _ (List.mem_append_left _ (List.mem_append_left _ (List.mem_of_getElem? (i := 3) rfl)))) hP 0 rfl dX5_sea_115 ?_
            refine lv_aload_n hx hb dX5_sea_118 rfl (lv_at hl 4 rfl) ?_
            refine gt_X5_9 F iX5 (List.mem_cons_of_mem _ (List.mem_append_left _ (List.mem_append_left _ (List.mem_of_getElem? (i := 2) rfl)))) hP 0 rfl dX5_sea_119 ?_
            obtain ⟨z_s_39, hk40, h⟩ := bd1_e h
            refine cS_v (rest := []) F (kX5_copies l D cI cJ H.size g a_z_was a_z_s z_was_L62 z_s_36 z_s_39 hk40) (va_cwS 2 hts gX5_sea_X5_copies rfl rfl rfl eSX5_copies ⟨Nat.le_of_ble_eq_true rfl, Nat.le_of_ble_eq_true rfl⟩) [2, 1] hP hS (by decide) rfl rfl rfl hl.1 (Nat.le_of_ble_eq_true rfl) ⟨Nat.le_refl _, Nat.le_refl _⟩ rfl dX5_sea_122 (fun H locs hP hS => ?_)
            have hP : WD D A [(a_z, .inr (5, [.ref a_z_s, .ref a_z_m, .ref a_z_image, .ref a_z_was, .int z_hasImage, .ref a_z_letters, .ref a_z_row, .ref a_z_refused, .int z_letterMany_L62, .int z_rowMany, .int z_reading_32, .ref a_z_numbers, .int z_seed])), (a_z_s, .inl (cI, 45, .inl z_s_39)), (a_z_was, .inl (cI, 45, .inl z_was_L62)), (a_z_letters, .inl (cI, 96, .inl z_letters)), (a_z_numbers, .inl (cI, 3, .inl z_numbers_33))] H := hP
            refine lv_goto (tgt := 62) hx hb dX5_sea_125 (by decide) ?_
            exact ih ((-2000) - z_reading_L62) z_reading_32 z_s_39 z_numbers_33 tt0 tt1 tt2 tt3 H locs ls h hP hS (lv_sub hl [4, 5, 0] rfl) kE
          · have h := it_n hc38 h
            refine lv_goto (tgt := 62) hx hb dX5_sea_105 (by decide) ?_
            exact ih x2_L62 z_reading_32 z_s_36 z_numbers_33 tt0 tt1 tt2 tt3 H locs ls h hP hS (lv_sub hl [3, 4, 5] rfl) kE
  have hl : lv_has ls 6 [(0, .ref a_z)] := hl
  have h := hf
  unfold fX5_sea at h
  refine lv_aload_n hx hb dX5_sea_0 rfl (lv_at hl 0 rfl) ?_
  refine lv_iconst (v := 0) hx hb dX5_sea_1 (by decide) ?_
  refine pt_X5_93 F iX5 (List.mem_cons_of_mem _ (List.mem_append_left _ (List.mem_append_left _ (List.mem_of_getElem? (i := 0) rfl)))) hP hS 0 rfl dX5_sea_2 (fun H locs hP hS => ?_)
  have hP : WD D A [(a_z, .inr (5, [.ref a_z_s, .ref a_z_m, .ref a_z_image, .ref a_z_was, .int z_hasImage, .ref a_z_letters, .ref a_z_row, .ref a_z_refused, .int z_letterMany, .int z_rowMany, .int 0, .ref a_z_numbers, .int z_seed])), (a_z_s, .inl (cI, 45, .inl z_s)), (a_z_was, .inl (cI, 45, .inl z_was)), (a_z_letters, .inl (cI, 96, .inl z_letters)), (a_z_numbers, .inl (cI, 3, .inl z_numbers))] H := hP
  refine lv_iconst (v := 0) hx hb dX5_sea_5 (by decide) ?_
  refine lv_istore_n (lv' := [(1, .int 0), (0, .ref a_z)]) hx hb dX5_sea_6 rfl hl (by decide) rfl (fun ls hl => ?_)
  refine lv_bipush (v := (-9)) hx hb dX5_sea_7 (by decide) ?_
  refine lv_istore_n (lv' := [(2, .int (-9)), (1, .int 0), (0, .ref a_z)]) hx hb dX5_sea_9 rfl hl (by decide) rfl (fun ls hl => ?_)
  obtain ⟨t21, t22, t23, t24, hk48, h⟩ := bd4_e h
  refine L10 z_letterMany z_s z_was g 0 (-9) 0 z_numbers t21 t22 t23 t24 H locs ls hk48 hP hS (lv_sub hl [2, 1, 0] rfl) (fun H locs ls hP hS hl => ?_)
  refine lv_aload_n hx hb dX5_sea_46 rfl (lv_at hl 0 rfl) ?_
  refine gt_X5_9 F iX5 (List.mem_cons_of_mem _ (List.mem_append_left _ (List.mem_append_left _ (List.mem_of_getElem? (i := 2) rfl)))) hP 0 rfl dX5_sea_47 ?_
  refine lv_aload_n hx hb dX5_sea_50 rfl (lv_at hl 0 rfl) ?_
  refine gt_X5_19 F iX5 (List.mem_cons_of_mem _ (List.mem_append_left _ (List.mem_append_left _ (List.mem_of_getElem? (i := 3) rfl)))) hP 0 rfl dX5_sea_51 ?_
  obtain ⟨z_was_25, hk26, h⟩ := bd1_e h
  refine cS_v (rest := []) F (kX5_copies l D cI cJ H.size g a_z_s a_z_was z_s z_was z_was_25 hk26) (va_cwS 2 hts gX5_sea_X5_copies rfl rfl rfl eSX5_copies ⟨Nat.le_of_ble_eq_true rfl, Nat.le_of_ble_eq_true rfl⟩) [1, 2] hP hS (by decide) rfl rfl rfl hl.1 (Nat.le_of_ble_eq_true rfl) ⟨Nat.le_refl _, Nat.le_refl _⟩ rfl dX5_sea_54 (fun H locs hP hS => ?_)
  have hP : WD D A [(a_z, .inr (5, [.ref a_z_s, .ref a_z_m, .ref a_z_image, .ref a_z_was, .int z_hasImage, .ref a_z_letters, .ref a_z_row, .ref a_z_refused, .int z_letterMany, .int z_rowMany, .int t23, .ref a_z_numbers, .int z_seed])), (a_z_s, .inl (cI, 45, .inl z_s)), (a_z_was, .inl (cI, 45, .inl z_was_25)), (a_z_letters, .inl (cI, 96, .inl z_letters)), (a_z_numbers, .inl (cI, 3, .inl t24))] H := hP
  refine lv_aload_n hx hb dX5_sea_57 rfl (lv_at hl 0 rfl) ?_
  refine lv_iconst (v := 0) hx hb dX5_sea_58 (by decide) ?_
  refine pt_X5_93 F iX5 (List.mem_cons_of_mem _ (List.mem_append_left _ (List.mem_append_left _ (List.mem_of_getElem? (i := 0) rfl)))) hP hS 0 rfl dX5_sea_59 (fun H locs hP hS => ?_)
  have hP : WD D A [(a_z, .inr (5, [.ref a_z_s, .ref a_z_m, .ref a_z_image, .ref a_z_was, .int z_hasImage, .ref a_z_letters, .ref a_z_row, .ref a_z_refused, .int z_letterMany, .int z_rowMany, .int 0, .ref a_z_numbers, .int z_seed])), (a_z_s, .inl (cI, 45, .inl z_s)), (a_z_was, .inl (cI, 45, .inl z_was_25)), (a_z_letters, .inl (cI, 96, .inl z_letters)), (a_z_numbers, .inl (cI, 3, .inl t24))] H := hP
  obtain ⟨t41, t42, t43, t44, hk46, h⟩ := bd4_e h
  refine L62 t21 z_letterMany z_was_25 g t22 0 z_s t24 t41 t42 t43 t44 H locs ls hk46 hP hS (lv_sub hl [0, 1, 2] rfl) (fun H locs ls hP hS hl => ?_)
  refine lv_aload_n hx hb dX5_sea_128 rfl (lv_at hl 0 rfl) ?_
  refine lv_iconst (v := 0) hx hb dX5_sea_129 (by decide) ?_
  refine pt_X5_89 F iX5 (List.mem_cons_of_mem _ (List.mem_append_left _ (List.mem_append_left _ (List.mem_of_getElem? (i := 1) rfl)))) hP hS 0 rfl dX5_sea_130 (fun H locs hP hS => ?_)
  have hP : WD D A [(a_z, .inr (5, [.ref a_z_s, .ref a_z_m, .ref a_z_image, .ref a_z_was, .int z_hasImage, .ref a_z_letters, .ref a_z_row, .ref a_z_refused, .int 0, .int z_rowMany, .int t42, .ref a_z_numbers, .int z_seed])), (a_z_s, .inl (cI, 45, .inl t43)), (a_z_was, .inl (cI, 45, .inl z_was_25)), (a_z_letters, .inl (cI, 96, .inl z_letters)), (a_z_numbers, .inl (cI, 3, .inl t44))] H := hP
  refine lv_iload_n hx hb dX5_sea_133 rfl (lv_at hl 2 rfl) ?_
  refine lv_bipush (v := (-9)) hx hb dX5_sea_134 (by decide) ?_
  refine lv_icmp_ne (tgt := 143) hx hb dX5_sea_136 (by decide) (fun hc45 => ?_) (fun hc45 => ?_)
  · have h := it_n hc45 h
    refine lv_iload_n hx hb dX5_sea_143 rfl (lv_at hl 2 rfl) ?_
    exact hret 144 H locs ls t41 0 t42 t43 z_was_25 t44 h rfl dX5_sea_144 hP hS
  · have h := it_p hc45 h
    refine lv_iload_n hx hb dX5_sea_139 rfl (lv_at hl 1 rfl) ?_
    refine lv_goto (tgt := 144) hx hb dX5_sea_140 (by decide) ?_
    exact hret 144 H locs ls t21 0 t42 t43 z_was_25 t44 h rfl dX5_sea_144 hP hS
theorem eSX5_hand : yX5_hand.cls ≠ "java/lang/invoke/MethodHandle" ∧ yX5_hand.cls ≠ "java/lang/invoke/VarHandle" ∧ (parseMethodDescriptor yX5_hand.desc).map (fun d => d.parameters.length) = some 2 := by decide +kernel
theorem eVX5_hand : yX5_hand.cls = RX5 ∧ yX5_hand.cls ≠ "java/lang/invoke/MethodHandle" ∧ yX5_hand.cls ≠ "java/lang/invoke/VarHandle" ∧ (parseMethodDescriptor yX5_hand.desc).map (fun d => d.parameters.length) = some 2 := ⟨rfl, eSX5_hand⟩
abbrev rmX5_hand : Room := { frames := 2, cells := 0, slots := 0, locals := 43 }
def fX5_hand (g : Nat) (p0 : Int32) (p1 : Int32) (z_s : Nat → Int32) (z_refused : Nat → Int32) : Option (Int32 × (Nat → Int32)) := bd1 (fX5_isHand g p0 z_s) fun r16 => (if r16 = 0 then (bd2 (fX5_no g (-1) z_refused) fun r28 z_refused_29 => (some (r28, z_refused_29))) else (bd1 (fX5_isIn g p1 0 4) fun r19 => (if r19 = 0 then (bd2 (fX5_no g (-2) z_refused) fun r22 z_refused_23 => (some (r22, z_refused_23))) else (bd1 (fX5_of g p0 p1) fun r25 => (gd (inB r25 45) (some (z_s r25.toNatClampNeg, z_refused)))))))
set_option maxHeartbeats 4000000 in
set_option maxRecDepth 100000 in
theorem kX5_hand (l : Launch) (D : va_G) (cI cJ : ClassId) (sz g : Nat) (a_z a_z_s a_z_m a_z_image a_z_was a_z_letters a_z_row a_z_refused a_z_numbers : Nat) (z_hasImage : Int32) (z_letterMany : Int32) (z_rowMany : Int32) (z_reading : Int32) (z_seed : Int32) (z_s : Nat → Int32) (z_refused : Nat → Int32) (p0 : Int32) (p1 : Int32) (r : Int32) (n_z_refused : Nat → Int32) (hf : fX5_hand g p0 p1 z_s z_refused = some (r, n_z_refused)) : Met l yX5_hand wsX5_hand rmX5_hand (va_Pc [.ref a_z, .int p0, .int p1] (sPc D (tyL cI cJ) [(a_z, .inr (5, [.ref a_z_s, .ref a_z_m, .ref a_z_image, .ref a_z_was, .int z_hasImage, .ref a_z_letters, .ref a_z_row, .ref a_z_refused, .int z_letterMany, .int z_rowMany, .int z_reading, .ref a_z_numbers, .int z_seed])), (a_z_s, .inl (cI, 45, .inl z_s)), (a_z_refused, .inl (cI, 7, .inl z_refused))] sz)) (qI D (tyL cI cJ) [(a_z, .inr (5, [.ref a_z_s, .ref a_z_m, .ref a_z_image, .ref a_z_was, .int z_hasImage, .ref a_z_letters, .ref a_z_row, .ref a_z_refused, .int z_letterMany, .int z_rowMany, .int z_reading, .ref a_z_numbers, .int z_seed])), (a_z_s, .inl (cI, 45, .inl z_s)), (a_z_refused, .inl (cI, 7, .inl z_refused))] sz [(a_z, .inr (5, [.ref a_z_s, .ref a_z_m, .ref a_z_image, .ref a_z_was, .int z_hasImage, .ref a_z_letters, .ref a_z_row, .ref a_z_refused, .int z_letterMany, .int z_rowMany, .int z_reading, .ref a_z_numbers, .int z_seed])), (a_z_s, .inl (cI, 45, .inl z_s)), (a_z_refused, .inl (cI, 7, .inl n_z_refused))] r) 0 0 (va_A [(a_z, .inr (5, [.ref a_z_s, .ref a_z_m, .ref a_z_image, .ref a_z_was, .int z_hasImage, .ref a_z_letters, .ref a_z_row, .ref a_z_refused, .int z_letterMany, .int z_rowMany, .int z_reading, .ref a_z_numbers, .int z_seed])), (a_z_s, .inl (cI, 45, .inl z_s)), (a_z_refused, .inl (cI, 7, .inl z_refused))] sz) := by
  refine st_i (cc := cX5_hand) (maxL := 3) (by decide) rfl (Nat.le_of_ble_eq_true rfl) ?_
  intro p e s m args below meth c A Q F hret0 H locs hP hS ls hl
  have F : Cx p s m args c cX5_hand 3 wsX5_hand RX5 D (tyL cI cJ) A := F
  have hx := F.1.1
  have hb := F.1.2.1
  have hown := F.1.2.2.2.1
  have hts := F.1.2.2.2.2
  have iX5 : ∀ w ∈ wsX50, w ∈ wsX5_hand := fun w h => (List.mem_cons_of_mem _ (List.mem_append_right _ h))
  have hret : ∀ (pc : Nat) (H : Heap) (locs : List Loc) (ls : Array Slot) (r' : Int32) (m_z_refused : Nat → Int32), some (r', m_z_refused) = some (r, n_z_refused) → narrow .int (.int r') = .int r' → decode cX5_hand pc = .ok (.ireturn, 1) → WD D A [(a_z, .inr (5, [.ref a_z_s, .ref a_z_m, .ref a_z_image, .ref a_z_was, .int z_hasImage, .ref a_z_letters, .ref a_z_row, .ref a_z_refused, .int z_letterMany, .int z_rowMany, .int z_reading, .ref a_z_numbers, .int z_seed])), (a_z_s, .inl (cI, 45, .inl z_s)), (a_z_refused, .inl (cI, 7, .inl m_z_refused))] H → va_S A s.heap H locs → W p l e rmX5_hand s m args below meth c H locs 0 0 Q (F0 m pc ls [.int r']) := by
    intro pc H locs ls r' m_z_refused h hn hd hP hS
    cases h
    exact hret0 pc H locs ls hn hd hP hS
  have hl : lv_has ls 3 [(0, .ref a_z), (1, .int p0), (2, .int p1)] := hl
  have h := hf
  unfold fX5_hand at h
  refine lv_aload_n hx hb dX5_hand_0 rfl (lv_at hl 0 rfl) ?_
  refine lv_iload_n hx hb dX5_hand_1 rfl (lv_at hl 1 rfl) ?_
  obtain ⟨r16, hk17, h⟩ := bd1_e h
  refine cV_i (rest := []) F (kX5_isHand l D cI cJ H.size g a_z a_z_s a_z_m a_z_image a_z_was a_z_letters a_z_row a_z_refused a_z_numbers z_hasImage z_letterMany z_rowMany z_reading z_seed z_s p0 r16 hk17) (cwV 1 hts gX5_hand_X5_isHand rfl rfl rfl eVX5_isHand ⟨Nat.le_of_ble_eq_true rfl, Nat.le_of_ble_eq_true rfl⟩) [0, 1] hP hS (by decide) rfl rfl 0 rfl rfl rfl hl.1 (Nat.le_of_ble_eq_true rfl) ⟨Nat.le_refl _, Nat.le_refl _⟩ rfl dX5_hand_2 (fun H locs hP hS => ?_)
  have hP : WD D A [(a_z, .inr (5, [.ref a_z_s, .ref a_z_m, .ref a_z_image, .ref a_z_was, .int z_hasImage, .ref a_z_letters, .ref a_z_row, .ref a_z_refused, .int z_letterMany, .int z_rowMany, .int z_reading, .ref a_z_numbers, .int z_seed])), (a_z_s, .inl (cI, 45, .inl z_s)), (a_z_refused, .inl (cI, 7, .inl z_refused))] H := hP
  refine lv_if_ne (tgt := 14) hx hb dX5_hand_5 (by decide) (fun hc18 => ?_) (fun hc18 => ?_)
  · have h := it_n hc18 h
    refine lv_iload_n hx hb dX5_hand_14 rfl (lv_at hl 2 rfl) ?_
    refine lv_iconst (v := 0) hx hb dX5_hand_15 (by decide) ?_
    refine lv_iconst (v := 4) hx hb dX5_hand_16 (by decide) ?_
    obtain ⟨r19, hk20, h⟩ := bd1_e h
    refine cS_i (rest := []) F (kX5_isIn l D cI cJ H.size g p1 0 4 r19 hk20) (va_cwS 3 hts gX5_hand_X5_isIn rfl rfl rfl eSX5_isIn ⟨Nat.le_of_ble_eq_true rfl, Nat.le_of_ble_eq_true rfl⟩) [] hP hS (by decide) rfl rfl rfl hl.1 (Nat.le_of_ble_eq_true rfl) ⟨Nat.le_refl _, Nat.le_refl _⟩ rfl dX5_hand_17 (fun H locs hP hS => ?_)
    have hP : WD D A [(a_z, .inr (5, [.ref a_z_s, .ref a_z_m, .ref a_z_image, .ref a_z_was, .int z_hasImage, .ref a_z_letters, .ref a_z_row, .ref a_z_refused, .int z_letterMany, .int z_rowMany, .int z_reading, .ref a_z_numbers, .int z_seed])), (a_z_s, .inl (cI, 45, .inl z_s)), (a_z_refused, .inl (cI, 7, .inl z_refused))] H := hP
    refine lv_if_eq (tgt := 36) hx hb dX5_hand_20 (by decide) (fun hc21 => ?_) (fun hc21 => ?_)
    · have h := it_p hc21 h
      refine lv_aload_n hx hb dX5_hand_36 rfl (lv_at hl 0 rfl) ?_
      refine lv_bipush (v := (-2)) hx hb dX5_hand_37 (by decide) ?_
      obtain ⟨r22, z_refused_23, hk24, h⟩ := bd2_e h
      refine cV_i (rest := []) F (kX5_no l D cI cJ H.size g a_z a_z_s a_z_m a_z_image a_z_was a_z_letters a_z_row a_z_refused a_z_numbers z_hasImage z_letterMany z_rowMany z_reading z_seed z_refused (-2) r22 z_refused_23 hk24) (cwV 1 hts gX5_hand_X5_no rfl rfl rfl eVX5_no ⟨Nat.le_of_ble_eq_true rfl, Nat.le_of_ble_eq_true rfl⟩) [0, 2] hP hS (by decide) rfl rfl 0 rfl rfl rfl hl.1 (Nat.le_of_ble_eq_true rfl) ⟨Nat.le_refl _, Nat.le_refl _⟩ rfl dX5_hand_39 (fun H locs hP hS => ?_)
      have hP : WD D A [(a_z, .inr (5, [.ref a_z_s, .ref a_z_m, .ref a_z_image, .ref a_z_was, .int z_hasImage, .ref a_z_letters, .ref a_z_row, .ref a_z_refused, .int z_letterMany, .int z_rowMany, .int z_reading, .ref a_z_numbers, .int z_seed])), (a_z_s, .inl (cI, 45, .inl z_s)), (a_z_refused, .inl (cI, 7, .inl z_refused_23))] H := hP
      exact hret 42 H locs ls r22 z_refused_23 h rfl dX5_hand_42 hP hS
    · have h := it_n hc21 h
      refine lv_aload_n hx hb dX5_hand_23 rfl (lv_at hl 0 rfl) ?_
      refine gt_X5_9 F iX5 (List.mem_cons_of_mem _ (List.mem_append_left _ (List.mem_of_getElem? (i := 0) rfl))) hP 0 rfl dX5_hand_24 ?_
      refine lv_iload_n hx hb dX5_hand_27 rfl (lv_at hl 1 rfl) ?_
      refine lv_iload_n hx hb dX5_hand_28 rfl (lv_at hl 2 rfl) ?_
      obtain ⟨r25, hk26, h⟩ := bd1_e h
      refine cS_i (rest := [.ref a_z_s]) F (kX5_of l D cI cJ H.size g p0 p1 r25 hk26) (va_cwS 2 hts gX5_hand_X5_of rfl rfl rfl eSX5_of ⟨Nat.le_of_ble_eq_true rfl, Nat.le_of_ble_eq_true rfl⟩) [] hP hS (by decide) rfl rfl rfl hl.1 (Nat.le_of_ble_eq_true rfl) ⟨Nat.le_refl _, Nat.le_refl _⟩ rfl dX5_hand_29 (fun H locs hP hS => ?_)
      have hP : WD D A [(a_z, .inr (5, [.ref a_z_s, .ref a_z_m, .ref a_z_image, .ref a_z_was, .int z_hasImage, .ref a_z_letters, .ref a_z_row, .ref a_z_refused, .int z_letterMany, .int z_rowMany, .int z_reading, .ref a_z_numbers, .int z_seed])), (a_z_s, .inl (cI, 45, .inl z_s)), (a_z_refused, .inl (cI, 7, .inl z_refused))] H := hP
      obtain ⟨hg27, h⟩ := gd_e h
      refine r_ia F hP 1 rfl rfl hg27 dX5_hand_32 ?_
      refine lv_goto (tgt := 42) hx hb dX5_hand_33 (by decide) ?_
      exact hret 42 H locs ls (z_s r25.toNatClampNeg) z_refused h rfl dX5_hand_42 hP hS
  · have h := it_p hc18 h
    refine lv_aload_n hx hb dX5_hand_8 rfl (lv_at hl 0 rfl) ?_
    refine lv_iconst (v := (-1)) hx hb dX5_hand_9 (by decide) ?_
    obtain ⟨r28, z_refused_29, hk30, h⟩ := bd2_e h
    refine cV_i (rest := []) F (kX5_no l D cI cJ H.size g a_z a_z_s a_z_m a_z_image a_z_was a_z_letters a_z_row a_z_refused a_z_numbers z_hasImage z_letterMany z_rowMany z_reading z_seed z_refused (-1) r28 z_refused_29 hk30) (cwV 1 hts gX5_hand_X5_no rfl rfl rfl eVX5_no ⟨Nat.le_of_ble_eq_true rfl, Nat.le_of_ble_eq_true rfl⟩) [0, 2] hP hS (by decide) rfl rfl 0 rfl rfl rfl hl.1 (Nat.le_of_ble_eq_true rfl) ⟨Nat.le_refl _, Nat.le_refl _⟩ rfl dX5_hand_10 (fun H locs hP hS => ?_)
    have hP : WD D A [(a_z, .inr (5, [.ref a_z_s, .ref a_z_m, .ref a_z_image, .ref a_z_was, .int z_hasImage, .ref a_z_letters, .ref a_z_row, .ref a_z_refused, .int z_letterMany, .int z_rowMany, .int z_reading, .ref a_z_numbers, .int z_seed])), (a_z_s, .inl (cI, 45, .inl z_s)), (a_z_refused, .inl (cI, 7, .inl z_refused_29))] H := hP
    exact hret 13 H locs ls r28 z_refused_29 h rfl dX5_hand_13 hP hS
theorem eSX5_place : yX5_place.cls ≠ "java/lang/invoke/MethodHandle" ∧ yX5_place.cls ≠ "java/lang/invoke/VarHandle" ∧ (parseMethodDescriptor yX5_place.desc).map (fun d => d.parameters.length) = some 1 := by decide +kernel
theorem eVX5_place : yX5_place.cls = RX5 ∧ yX5_place.cls ≠ "java/lang/invoke/MethodHandle" ∧ yX5_place.cls ≠ "java/lang/invoke/VarHandle" ∧ (parseMethodDescriptor yX5_place.desc).map (fun d => d.parameters.length) = some 1 := ⟨rfl, eSX5_place⟩
abbrev rmX5_place : Room := { frames := 2, cells := 0, slots := 0, locals := 43 }
def fX5_place (g : Nat) (p0 : Int32) (z_s : Nat → Int32) (z_refused : Nat → Int32) : Option (Int32 × (Nat → Int32)) := bd1 (fX5_isPlace g p0 z_s) fun r8 => (if r8 = 0 then (bd2 (fX5_no g (-1) z_refused) fun r11 z_refused_12 => (some (r11, z_refused_12))) else (gd (inB (4 + p0) 45) (some (z_s (4 + p0).toNatClampNeg, z_refused))))
set_option maxHeartbeats 4000000 in
set_option maxRecDepth 100000 in
theorem kX5_place (l : Launch) (D : va_G) (cI cJ : ClassId) (sz g : Nat) (a_z a_z_s a_z_m a_z_image a_z_was a_z_letters a_z_row a_z_refused a_z_numbers : Nat) (z_hasImage : Int32) (z_letterMany : Int32) (z_rowMany : Int32) (z_reading : Int32) (z_seed : Int32) (z_s : Nat → Int32) (z_refused : Nat → Int32) (p0 : Int32) (r : Int32) (n_z_refused : Nat → Int32) (hf : fX5_place g p0 z_s z_refused = some (r, n_z_refused)) : Met l yX5_place wsX5_place rmX5_place (va_Pc [.ref a_z, .int p0] (sPc D (tyL cI cJ) [(a_z, .inr (5, [.ref a_z_s, .ref a_z_m, .ref a_z_image, .ref a_z_was, .int z_hasImage, .ref a_z_letters, .ref a_z_row, .ref a_z_refused, .int z_letterMany, .int z_rowMany, .int z_reading, .ref a_z_numbers, .int z_seed])), (a_z_s, .inl (cI, 45, .inl z_s)), (a_z_refused, .inl (cI, 7, .inl z_refused))] sz)) (qI D (tyL cI cJ) [(a_z, .inr (5, [.ref a_z_s, .ref a_z_m, .ref a_z_image, .ref a_z_was, .int z_hasImage, .ref a_z_letters, .ref a_z_row, .ref a_z_refused, .int z_letterMany, .int z_rowMany, .int z_reading, .ref a_z_numbers, .int z_seed])), (a_z_s, .inl (cI, 45, .inl z_s)), (a_z_refused, .inl (cI, 7, .inl z_refused))] sz [(a_z, .inr (5, [.ref a_z_s, .ref a_z_m, .ref a_z_image, .ref a_z_was, .int z_hasImage, .ref a_z_letters, .ref a_z_row, .ref a_z_refused, .int z_letterMany, .int z_rowMany, .int z_reading, .ref a_z_numbers, .int z_seed])), (a_z_s, .inl (cI, 45, .inl z_s)), (a_z_refused, .inl (cI, 7, .inl n_z_refused))] r) 0 0 (va_A [(a_z, .inr (5, [.ref a_z_s, .ref a_z_m, .ref a_z_image, .ref a_z_was, .int z_hasImage, .ref a_z_letters, .ref a_z_row, .ref a_z_refused, .int z_letterMany, .int z_rowMany, .int z_reading, .ref a_z_numbers, .int z_seed])), (a_z_s, .inl (cI, 45, .inl z_s)), (a_z_refused, .inl (cI, 7, .inl z_refused))] sz) := by
  refine st_i (cc := cX5_place) (maxL := 2) (by decide) rfl (Nat.le_of_ble_eq_true rfl) ?_
  intro p e s m args below meth c A Q F hret0 H locs hP hS ls hl
  have F : Cx p s m args c cX5_place 2 wsX5_place RX5 D (tyL cI cJ) A := F
  have hx := F.1.1
  have hb := F.1.2.1
  have hown := F.1.2.2.2.1
  have hts := F.1.2.2.2.2
  have iX5 : ∀ w ∈ wsX50, w ∈ wsX5_place := fun w h => (List.mem_cons_of_mem _ (List.mem_append_right _ h))
  have hret : ∀ (pc : Nat) (H : Heap) (locs : List Loc) (ls : Array Slot) (r' : Int32) (m_z_refused : Nat → Int32), some (r', m_z_refused) = some (r, n_z_refused) → narrow .int (.int r') = .int r' → decode cX5_place pc = .ok (.ireturn, 1) → WD D A [(a_z, .inr (5, [.ref a_z_s, .ref a_z_m, .ref a_z_image, .ref a_z_was, .int z_hasImage, .ref a_z_letters, .ref a_z_row, .ref a_z_refused, .int z_letterMany, .int z_rowMany, .int z_reading, .ref a_z_numbers, .int z_seed])), (a_z_s, .inl (cI, 45, .inl z_s)), (a_z_refused, .inl (cI, 7, .inl m_z_refused))] H → va_S A s.heap H locs → W p l e rmX5_place s m args below meth c H locs 0 0 Q (F0 m pc ls [.int r']) := by
    intro pc H locs ls r' m_z_refused h hn hd hP hS
    cases h
    exact hret0 pc H locs ls hn hd hP hS
  have hl : lv_has ls 2 [(0, .ref a_z), (1, .int p0)] := hl
  have h := hf
  unfold fX5_place at h
  refine lv_aload_n hx hb dX5_place_0 rfl (lv_at hl 0 rfl) ?_
  refine lv_iload_n hx hb dX5_place_1 rfl (lv_at hl 1 rfl) ?_
  obtain ⟨r8, hk9, h⟩ := bd1_e h
  refine cV_i (rest := []) F (kX5_isPlace l D cI cJ H.size g a_z a_z_s a_z_m a_z_image a_z_was a_z_letters a_z_row a_z_refused a_z_numbers z_hasImage z_letterMany z_rowMany z_reading z_seed z_s p0 r8 hk9) (cwV 1 hts gX5_place_X5_isPlace rfl rfl rfl eVX5_isPlace ⟨Nat.le_of_ble_eq_true rfl, Nat.le_of_ble_eq_true rfl⟩) [0, 1] hP hS (by decide) rfl rfl 0 rfl rfl rfl hl.1 (Nat.le_of_ble_eq_true rfl) ⟨Nat.le_refl _, Nat.le_refl _⟩ rfl dX5_place_2 (fun H locs hP hS => ?_)
  have hP : WD D A [(a_z, .inr (5, [.ref a_z_s, .ref a_z_m, .ref a_z_image, .ref a_z_was, .int z_hasImage, .ref a_z_letters, .ref a_z_row, .ref a_z_refused, .int z_letterMany, .int z_rowMany, .int z_reading, .ref a_z_numbers, .int z_seed])), (a_z_s, .inl (cI, 45, .inl z_s)), (a_z_refused, .inl (cI, 7, .inl z_refused))] H := hP
  refine lv_if_eq (tgt := 19) hx hb dX5_place_5 (by decide) (fun hc10 => ?_) (fun hc10 => ?_)
  · have h := it_p hc10 h
    refine lv_aload_n hx hb dX5_place_19 rfl (lv_at hl 0 rfl) ?_
    refine lv_iconst (v := (-1)) hx hb dX5_place_20 (by decide) ?_
    obtain ⟨r11, z_refused_12, hk13, h⟩ := bd2_e h
    refine cV_i (rest := []) F (kX5_no l D cI cJ H.size g a_z a_z_s a_z_m a_z_image a_z_was a_z_letters a_z_row a_z_refused a_z_numbers z_hasImage z_letterMany z_rowMany z_reading z_seed z_refused (-1) r11 z_refused_12 hk13) (cwV 1 hts gX5_place_X5_no rfl rfl rfl eVX5_no ⟨Nat.le_of_ble_eq_true rfl, Nat.le_of_ble_eq_true rfl⟩) [0, 2] hP hS (by decide) rfl rfl 0 rfl rfl rfl hl.1 (Nat.le_of_ble_eq_true rfl) ⟨Nat.le_refl _, Nat.le_refl _⟩ rfl dX5_place_21 (fun H locs hP hS => ?_)
    have hP : WD D A [(a_z, .inr (5, [.ref a_z_s, .ref a_z_m, .ref a_z_image, .ref a_z_was, .int z_hasImage, .ref a_z_letters, .ref a_z_row, .ref a_z_refused, .int z_letterMany, .int z_rowMany, .int z_reading, .ref a_z_numbers, .int z_seed])), (a_z_s, .inl (cI, 45, .inl z_s)), (a_z_refused, .inl (cI, 7, .inl z_refused_12))] H := hP
    exact hret 24 H locs ls r11 z_refused_12 h rfl dX5_place_24 hP hS
  · have h := it_n hc10 h
    refine lv_aload_n hx hb dX5_place_8 rfl (lv_at hl 0 rfl) ?_
    refine gt_X5_9 F iX5 (List.mem_cons_of_mem _ (List.mem_append_left _ (List.mem_of_getElem? (i := 0) rfl))) hP 0 rfl dX5_place_9 ?_
    refine lv_iconst (v := 4) hx hb dX5_place_12 (by decide) ?_
    refine lv_iload_n hx hb dX5_place_13 rfl (lv_at hl 1 rfl) ?_
    refine lv_iadd hx hb dX5_place_14 ?_
    obtain ⟨hg14, h⟩ := gd_e h
    refine r_ia F hP 1 rfl rfl hg14 dX5_place_15 ?_
    refine lv_goto (tgt := 24) hx hb dX5_place_16 (by decide) ?_
    exact hret 24 H locs ls (z_s (4 + p0).toNatClampNeg) z_refused h rfl dX5_place_24 hP hS
theorem eSX5_leans : yX5_leans.cls ≠ "java/lang/invoke/MethodHandle" ∧ yX5_leans.cls ≠ "java/lang/invoke/VarHandle" ∧ (parseMethodDescriptor yX5_leans.desc).map (fun d => d.parameters.length) = some 1 := by decide +kernel
theorem eVX5_leans : yX5_leans.cls = RX5 ∧ yX5_leans.cls ≠ "java/lang/invoke/MethodHandle" ∧ yX5_leans.cls ≠ "java/lang/invoke/VarHandle" ∧ (parseMethodDescriptor yX5_leans.desc).map (fun d => d.parameters.length) = some 1 := ⟨rfl, eSX5_leans⟩
abbrev rmX5_leans : Room := { frames := 3, cells := 0, slots := 0, locals := 65 }
def fX5_leans (g : Nat) (p0 : Int32) (z_s : Nat → Int32) (z_refused : Nat → Int32) : Option (Int32 × (Nat → Int32)) := bd1 (fX5_isHand g p0 z_s) fun r9 => (if r9 = 0 then (bd2 (fX5_noFar g (-1) z_refused) fun r12 z_refused_13 => (some (r12, z_refused_13))) else (bd1 (fX5_leansIn g p0 z_s) fun r15 => (some (r15, z_refused))))
set_option maxHeartbeats 4000000 in
set_option maxRecDepth 100000 in
theorem kX5_leans (l : Launch) (D : va_G) (cI cJ : ClassId) (sz g : Nat) (a_z a_z_s a_z_m a_z_image a_z_was a_z_letters a_z_row a_z_refused a_z_numbers : Nat) (z_hasImage : Int32) (z_letterMany : Int32) (z_rowMany : Int32) (z_reading : Int32) (z_seed : Int32) (z_s : Nat → Int32) (z_refused : Nat → Int32) (p0 : Int32) (r : Int32) (n_z_refused : Nat → Int32) (hf : fX5_leans g p0 z_s z_refused = some (r, n_z_refused)) : Met l yX5_leans wsX5_leans rmX5_leans (va_Pc [.ref a_z, .int p0] (sPc D (tyL cI cJ) [(a_z, .inr (5, [.ref a_z_s, .ref a_z_m, .ref a_z_image, .ref a_z_was, .int z_hasImage, .ref a_z_letters, .ref a_z_row, .ref a_z_refused, .int z_letterMany, .int z_rowMany, .int z_reading, .ref a_z_numbers, .int z_seed])), (a_z_s, .inl (cI, 45, .inl z_s)), (a_z_refused, .inl (cI, 7, .inl z_refused))] sz)) (qI D (tyL cI cJ) [(a_z, .inr (5, [.ref a_z_s, .ref a_z_m, .ref a_z_image, .ref a_z_was, .int z_hasImage, .ref a_z_letters, .ref a_z_row, .ref a_z_refused, .int z_letterMany, .int z_rowMany, .int z_reading, .ref a_z_numbers, .int z_seed])), (a_z_s, .inl (cI, 45, .inl z_s)), (a_z_refused, .inl (cI, 7, .inl z_refused))] sz [(a_z, .inr (5, [.ref a_z_s, .ref a_z_m, .ref a_z_image, .ref a_z_was, .int z_hasImage, .ref a_z_letters, .ref a_z_row, .ref a_z_refused, .int z_letterMany, .int z_rowMany, .int z_reading, .ref a_z_numbers, .int z_seed])), (a_z_s, .inl (cI, 45, .inl z_s)), (a_z_refused, .inl (cI, 7, .inl n_z_refused))] r) 0 0 (va_A [(a_z, .inr (5, [.ref a_z_s, .ref a_z_m, .ref a_z_image, .ref a_z_was, .int z_hasImage, .ref a_z_letters, .ref a_z_row, .ref a_z_refused, .int z_letterMany, .int z_rowMany, .int z_reading, .ref a_z_numbers, .int z_seed])), (a_z_s, .inl (cI, 45, .inl z_s)), (a_z_refused, .inl (cI, 7, .inl z_refused))] sz) := by
  refine st_i (cc := cX5_leans) (maxL := 2) (by decide) rfl (Nat.le_of_ble_eq_true rfl) ?_
  intro p e s m args below meth c A Q F hret0 H locs hP hS ls hl
  have F : Cx p s m args c cX5_leans 2 wsX5_leans RX5 D (tyL cI cJ) A := F
  have hx := F.1.1
  have hb := F.1.2.1
  have hown := F.1.2.2.2.1
  have hts := F.1.2.2.2.2
  have iX5 : ∀ w ∈ wsX50, w ∈ wsX5_leans := fun w h => (List.mem_cons_of_mem _ (List.mem_append_right _ h))
  have hret : ∀ (pc : Nat) (H : Heap) (locs : List Loc) (ls : Array Slot) (r' : Int32) (m_z_refused : Nat → Int32), some (r', m_z_refused) = some (r, n_z_refused) → narrow .int (.int r') = .int r' → decode cX5_leans pc = .ok (.ireturn, 1) → WD D A [(a_z, .inr (5, [.ref a_z_s, .ref a_z_m, .ref a_z_image, .ref a_z_was, .int z_hasImage, .ref a_z_letters, .ref a_z_row, .ref a_z_refused, .int z_letterMany, .int z_rowMany, .int z_reading, .ref a_z_numbers, .int z_seed])), (a_z_s, .inl (cI, 45, .inl z_s)), (a_z_refused, .inl (cI, 7, .inl m_z_refused))] H → va_S A s.heap H locs → W p l e rmX5_leans s m args below meth c H locs 0 0 Q (F0 m pc ls [.int r']) := by
    intro pc H locs ls r' m_z_refused h hn hd hP hS
    cases h
    exact hret0 pc H locs ls hn hd hP hS
  have hl : lv_has ls 2 [(0, .ref a_z), (1, .int p0)] := hl
  have h := hf
  unfold fX5_leans at h
  refine lv_aload_n hx hb dX5_leans_0 rfl (lv_at hl 0 rfl) ?_
  refine lv_iload_n hx hb dX5_leans_1 rfl (lv_at hl 1 rfl) ?_
  obtain ⟨r9, hk10, h⟩ := bd1_e h
  refine cV_i (rest := []) F (kX5_isHand l D cI cJ H.size g a_z a_z_s a_z_m a_z_image a_z_was a_z_letters a_z_row a_z_refused a_z_numbers z_hasImage z_letterMany z_rowMany z_reading z_seed z_s p0 r9 hk10) (cwV 1 hts gX5_leans_X5_isHand rfl rfl rfl eVX5_isHand ⟨Nat.le_of_ble_eq_true rfl, Nat.le_of_ble_eq_true rfl⟩) [0, 1] hP hS (by decide) rfl rfl 0 rfl rfl rfl hl.1 (Nat.le_of_ble_eq_true rfl) ⟨Nat.le_refl _, Nat.le_refl _⟩ rfl dX5_leans_2 (fun H locs hP hS => ?_)
  have hP : WD D A [(a_z, .inr (5, [.ref a_z_s, .ref a_z_m, .ref a_z_image, .ref a_z_was, .int z_hasImage, .ref a_z_letters, .ref a_z_row, .ref a_z_refused, .int z_letterMany, .int z_rowMany, .int z_reading, .ref a_z_numbers, .int z_seed])), (a_z_s, .inl (cI, 45, .inl z_s)), (a_z_refused, .inl (cI, 7, .inl z_refused))] H := hP
  refine lv_if_eq (tgt := 19) hx hb dX5_leans_5 (by decide) (fun hc11 => ?_) (fun hc11 => ?_)
  · have h := it_p hc11 h
    refine lv_aload_n hx hb dX5_leans_19 rfl (lv_at hl 0 rfl) ?_
    refine lv_iconst (v := (-1)) hx hb dX5_leans_20 (by decide) ?_
    obtain ⟨r12, z_refused_13, hk14, h⟩ := bd2_e h
    refine cV_i (rest := []) F (kX5_noFar l D cI cJ H.size g a_z a_z_s a_z_m a_z_image a_z_was a_z_letters a_z_row a_z_refused a_z_numbers z_hasImage z_letterMany z_rowMany z_reading z_seed z_refused (-1) r12 z_refused_13 hk14) (cwV 1 hts gX5_leans_X5_noFar rfl rfl rfl eVX5_noFar ⟨Nat.le_of_ble_eq_true rfl, Nat.le_of_ble_eq_true rfl⟩) [0, 2] hP hS (by decide) rfl rfl 0 rfl rfl rfl hl.1 (Nat.le_of_ble_eq_true rfl) ⟨Nat.le_refl _, Nat.le_refl _⟩ rfl dX5_leans_21 (fun H locs hP hS => ?_)
    have hP : WD D A [(a_z, .inr (5, [.ref a_z_s, .ref a_z_m, .ref a_z_image, .ref a_z_was, .int z_hasImage, .ref a_z_letters, .ref a_z_row, .ref a_z_refused, .int z_letterMany, .int z_rowMany, .int z_reading, .ref a_z_numbers, .int z_seed])), (a_z_s, .inl (cI, 45, .inl z_s)), (a_z_refused, .inl (cI, 7, .inl z_refused_13))] H := hP
    exact hret 24 H locs ls r12 z_refused_13 h rfl dX5_leans_24 hP hS
  · have h := it_n hc11 h
    refine lv_aload_n hx hb dX5_leans_8 rfl (lv_at hl 0 rfl) ?_
    refine gt_X5_9 F iX5 (List.mem_cons_of_mem _ (List.mem_append_left _ (List.mem_append_left _ (List.mem_of_getElem? (i := 0) rfl)))) hP 0 rfl dX5_leans_9 ?_
    refine lv_iload_n hx hb dX5_leans_12 rfl (lv_at hl 1 rfl) ?_
    obtain ⟨r15, hk16, h⟩ := bd1_e h
    refine cS_i (rest := []) F (kX5_leansIn l D cI cJ H.size g a_z_s z_s p0 r15 hk16) (va_cwS 2 hts gX5_leans_X5_leansIn rfl rfl rfl eSX5_leansIn ⟨Nat.le_of_ble_eq_true rfl, Nat.le_of_ble_eq_true rfl⟩) [1] hP hS (by decide) rfl rfl rfl hl.1 (Nat.le_of_ble_eq_true rfl) ⟨Nat.le_refl _, Nat.le_refl _⟩ rfl dX5_leans_13 (fun H locs hP hS => ?_)
    have hP : WD D A [(a_z, .inr (5, [.ref a_z_s, .ref a_z_m, .ref a_z_image, .ref a_z_was, .int z_hasImage, .ref a_z_letters, .ref a_z_row, .ref a_z_refused, .int z_letterMany, .int z_rowMany, .int z_reading, .ref a_z_numbers, .int z_seed])), (a_z_s, .inl (cI, 45, .inl z_s)), (a_z_refused, .inl (cI, 7, .inl z_refused))] H := hP
    refine lv_goto (tgt := 24) hx hb dX5_leans_16 (by decide) ?_
    exact hret 24 H locs ls r15 z_refused h rfl dX5_leans_24 hP hS
theorem eSX5_drops : yX5_drops.cls ≠ "java/lang/invoke/MethodHandle" ∧ yX5_drops.cls ≠ "java/lang/invoke/VarHandle" ∧ (parseMethodDescriptor yX5_drops.desc).map (fun d => d.parameters.length) = some 1 := by decide +kernel
theorem eVX5_drops : yX5_drops.cls = RX5 ∧ yX5_drops.cls ≠ "java/lang/invoke/MethodHandle" ∧ yX5_drops.cls ≠ "java/lang/invoke/VarHandle" ∧ (parseMethodDescriptor yX5_drops.desc).map (fun d => d.parameters.length) = some 1 := ⟨rfl, eSX5_drops⟩
abbrev rmX5_drops : Room := { frames := 2, cells := 0, slots := 0, locals := 43 }
def fX5_drops (g : Nat) (p0 : Int32) (z_s : Nat → Int32) (z_refused : Nat → Int32) : Option (Int32 × (Nat → Int32) × (Nat → Int32)) := bd1 (fX5_isHand g p0 z_s) fun r12 => (if r12 = 0 then (bd2 (fX5_no g (-1) z_refused) fun r20 z_refused_21 => (some (r20, z_s, z_refused_21))) else (bd1 (fX5_dropsIn g p0 z_s) fun z_s_15 => (bd1 (fX5_of g p0 3) fun r17 => (gd (inB r17 45) (some (z_s_15 r17.toNatClampNeg, z_s_15, z_refused))))))
set_option maxHeartbeats 4000000 in
set_option maxRecDepth 100000 in
theorem kX5_drops (l : Launch) (D : va_G) (cI cJ : ClassId) (sz g : Nat) (a_z a_z_s a_z_m a_z_image a_z_was a_z_letters a_z_row a_z_refused a_z_numbers : Nat) (z_hasImage : Int32) (z_letterMany : Int32) (z_rowMany : Int32) (z_reading : Int32) (z_seed : Int32) (z_s : Nat → Int32) (z_refused : Nat → Int32) (p0 : Int32) (r : Int32) (n_z_s : Nat → Int32) (n_z_refused : Nat → Int32) (hf : fX5_drops g p0 z_s z_refused = some (r, n_z_s, n_z_refused)) : Met l yX5_drops wsX5_drops rmX5_drops (va_Pc [.ref a_z, .int p0] (sPc D (tyL cI cJ) [(a_z, .inr (5, [.ref a_z_s, .ref a_z_m, .ref a_z_image, .ref a_z_was, .int z_hasImage, .ref a_z_letters, .ref a_z_row, .ref a_z_refused, .int z_letterMany, .int z_rowMany, .int z_reading, .ref a_z_numbers, .int z_seed])), (a_z_s, .inl (cI, 45, .inl z_s)), (a_z_refused, .inl (cI, 7, .inl z_refused))] sz)) (qI D (tyL cI cJ) [(a_z, .inr (5, [.ref a_z_s, .ref a_z_m, .ref a_z_image, .ref a_z_was, .int z_hasImage, .ref a_z_letters, .ref a_z_row, .ref a_z_refused, .int z_letterMany, .int z_rowMany, .int z_reading, .ref a_z_numbers, .int z_seed])), (a_z_s, .inl (cI, 45, .inl z_s)), (a_z_refused, .inl (cI, 7, .inl z_refused))] sz [(a_z, .inr (5, [.ref a_z_s, .ref a_z_m, .ref a_z_image, .ref a_z_was, .int z_hasImage, .ref a_z_letters, .ref a_z_row, .ref a_z_refused, .int z_letterMany, .int z_rowMany, .int z_reading, .ref a_z_numbers, .int z_seed])), (a_z_s, .inl (cI, 45, .inl n_z_s)), (a_z_refused, .inl (cI, 7, .inl n_z_refused))] r) 0 0 (va_A [(a_z, .inr (5, [.ref a_z_s, .ref a_z_m, .ref a_z_image, .ref a_z_was, .int z_hasImage, .ref a_z_letters, .ref a_z_row, .ref a_z_refused, .int z_letterMany, .int z_rowMany, .int z_reading, .ref a_z_numbers, .int z_seed])), (a_z_s, .inl (cI, 45, .inl z_s)), (a_z_refused, .inl (cI, 7, .inl z_refused))] sz) := by
  refine st_i (cc := cX5_drops) (maxL := 2) (by decide) rfl (Nat.le_of_ble_eq_true rfl) ?_
  intro p e s m args below meth c A Q F hret0 H locs hP hS ls hl
  have F : Cx p s m args c cX5_drops 2 wsX5_drops RX5 D (tyL cI cJ) A := F
  have hx := F.1.1
  have hb := F.1.2.1
  have hown := F.1.2.2.2.1
  have hts := F.1.2.2.2.2
  have iX5 : ∀ w ∈ wsX50, w ∈ wsX5_drops := fun w h => (List.mem_cons_of_mem _ (List.mem_append_right _ h))
  have hret : ∀ (pc : Nat) (H : Heap) (locs : List Loc) (ls : Array Slot) (r' : Int32) (m_z_s : Nat → Int32) (m_z_refused : Nat → Int32), some (r', m_z_s, m_z_refused) = some (r, n_z_s, n_z_refused) → narrow .int (.int r') = .int r' → decode cX5_drops pc = .ok (.ireturn, 1) → WD D A [(a_z, .inr (5, [.ref a_z_s, .ref a_z_m, .ref a_z_image, .ref a_z_was, .int z_hasImage, .ref a_z_letters, .ref a_z_row, .ref a_z_refused, .int z_letterMany, .int z_rowMany, .int z_reading, .ref a_z_numbers, .int z_seed])), (a_z_s, .inl (cI, 45, .inl m_z_s)), (a_z_refused, .inl (cI, 7, .inl m_z_refused))] H → va_S A s.heap H locs → W p l e rmX5_drops s m args below meth c H locs 0 0 Q (F0 m pc ls [.int r']) := by
    intro pc H locs ls r' m_z_s m_z_refused h hn hd hP hS
    cases h
    exact hret0 pc H locs ls hn hd hP hS
  have hl : lv_has ls 2 [(0, .ref a_z), (1, .int p0)] := hl
  have h := hf
  unfold fX5_drops at h
  refine lv_aload_n hx hb dX5_drops_0 rfl (lv_at hl 0 rfl) ?_
  refine lv_iload_n hx hb dX5_drops_1 rfl (lv_at hl 1 rfl) ?_
  obtain ⟨r12, hk13, h⟩ := bd1_e h
  refine cV_i (rest := []) F (kX5_isHand l D cI cJ H.size g a_z a_z_s a_z_m a_z_image a_z_was a_z_letters a_z_row a_z_refused a_z_numbers z_hasImage z_letterMany z_rowMany z_reading z_seed z_s p0 r12 hk13) (cwV 1 hts gX5_drops_X5_isHand rfl rfl rfl eVX5_isHand ⟨Nat.le_of_ble_eq_true rfl, Nat.le_of_ble_eq_true rfl⟩) [0, 1] hP hS (by decide) rfl rfl 0 rfl rfl rfl hl.1 (Nat.le_of_ble_eq_true rfl) ⟨Nat.le_refl _, Nat.le_refl _⟩ rfl dX5_drops_2 (fun H locs hP hS => ?_)
  have hP : WD D A [(a_z, .inr (5, [.ref a_z_s, .ref a_z_m, .ref a_z_image, .ref a_z_was, .int z_hasImage, .ref a_z_letters, .ref a_z_row, .ref a_z_refused, .int z_letterMany, .int z_rowMany, .int z_reading, .ref a_z_numbers, .int z_seed])), (a_z_s, .inl (cI, 45, .inl z_s)), (a_z_refused, .inl (cI, 7, .inl z_refused))] H := hP
  refine lv_if_ne (tgt := 14) hx hb dX5_drops_5 (by decide) (fun hc14 => ?_) (fun hc14 => ?_)
  · have h := it_n hc14 h
    refine lv_aload_n hx hb dX5_drops_14 rfl (lv_at hl 0 rfl) ?_
    refine gt_X5_9 F iX5 (List.mem_cons_of_mem _ (List.mem_append_left _ (List.mem_of_getElem? (i := 0) rfl))) hP 0 rfl dX5_drops_15 ?_
    refine lv_iload_n hx hb dX5_drops_18 rfl (lv_at hl 1 rfl) ?_
    obtain ⟨z_s_15, hk16, h⟩ := bd1_e h
    refine cS_v (rest := []) F (kX5_dropsIn l D cI cJ H.size g a_z_s z_s p0 z_s_15 hk16) (va_cwS 2 hts gX5_drops_X5_dropsIn rfl rfl rfl eSX5_dropsIn ⟨Nat.le_of_ble_eq_true rfl, Nat.le_of_ble_eq_true rfl⟩) [1] hP hS (by decide) rfl rfl rfl hl.1 (Nat.le_of_ble_eq_true rfl) ⟨Nat.le_refl _, Nat.le_refl _⟩ rfl dX5_drops_19 (fun H locs hP hS => ?_)
    have hP : WD D A [(a_z, .inr (5, [.ref a_z_s, .ref a_z_m, .ref a_z_image, .ref a_z_was, .int z_hasImage, .ref a_z_letters, .ref a_z_row, .ref a_z_refused, .int z_letterMany, .int z_rowMany, .int z_reading, .ref a_z_numbers, .int z_seed])), (a_z_s, .inl (cI, 45, .inl z_s_15)), (a_z_refused, .inl (cI, 7, .inl z_refused))] H := hP
    refine lv_aload_n hx hb dX5_drops_22 rfl (lv_at hl 0 rfl) ?_
    refine gt_X5_9 F iX5 (List.mem_cons_of_mem _ (List.mem_append_left _ (List.mem_of_getElem? (i := 0) rfl))) hP 0 rfl dX5_drops_23 ?_
    refine lv_iload_n hx hb dX5_drops_26 rfl (lv_at hl 1 rfl) ?_
    refine lv_iconst (v := 3) hx hb dX5_drops_27 (by decide) ?_
    obtain ⟨r17, hk18, h⟩ := bd1_e h
    refine cS_i (rest := [.ref a_z_s]) F (kX5_of l D cI cJ H.size g p0 3 r17 hk18) (va_cwS 2 hts gX5_drops_X5_of rfl rfl rfl eSX5_of ⟨Nat.le_of_ble_eq_true rfl, Nat.le_of_ble_eq_true rfl⟩) [] hP hS (by decide) rfl rfl rfl hl.1 (Nat.le_of_ble_eq_true rfl) ⟨Nat.le_refl _, Nat.le_refl _⟩ rfl dX5_drops_28 (fun H locs hP hS => ?_)
    have hP : WD D A [(a_z, .inr (5, [.ref a_z_s, .ref a_z_m, .ref a_z_image, .ref a_z_was, .int z_hasImage, .ref a_z_letters, .ref a_z_row, .ref a_z_refused, .int z_letterMany, .int z_rowMany, .int z_reading, .ref a_z_numbers, .int z_seed])), (a_z_s, .inl (cI, 45, .inl z_s_15)), (a_z_refused, .inl (cI, 7, .inl z_refused))] H := hP
    obtain ⟨hg19, h⟩ := gd_e h
    refine r_ia F hP 1 rfl rfl hg19 dX5_drops_31 ?_
    exact hret 32 H locs ls (z_s_15 r17.toNatClampNeg) z_s_15 z_refused h rfl dX5_drops_32 hP hS
  · have h := it_p hc14 h
    refine lv_aload_n hx hb dX5_drops_8 rfl (lv_at hl 0 rfl) ?_
    refine lv_iconst (v := (-1)) hx hb dX5_drops_9 (by decide) ?_
    obtain ⟨r20, z_refused_21, hk22, h⟩ := bd2_e h
    refine cV_i (rest := []) F (kX5_no l D cI cJ H.size g a_z a_z_s a_z_m a_z_image a_z_was a_z_letters a_z_row a_z_refused a_z_numbers z_hasImage z_letterMany z_rowMany z_reading z_seed z_refused (-1) r20 z_refused_21 hk22) (cwV 1 hts gX5_drops_X5_no rfl rfl rfl eVX5_no ⟨Nat.le_of_ble_eq_true rfl, Nat.le_of_ble_eq_true rfl⟩) [0, 2] hP hS (by decide) rfl rfl 0 rfl rfl rfl hl.1 (Nat.le_of_ble_eq_true rfl) ⟨Nat.le_refl _, Nat.le_refl _⟩ rfl dX5_drops_10 (fun H locs hP hS => ?_)
    have hP : WD D A [(a_z, .inr (5, [.ref a_z_s, .ref a_z_m, .ref a_z_image, .ref a_z_was, .int z_hasImage, .ref a_z_letters, .ref a_z_row, .ref a_z_refused, .int z_letterMany, .int z_rowMany, .int z_reading, .ref a_z_numbers, .int z_seed])), (a_z_s, .inl (cI, 45, .inl z_s)), (a_z_refused, .inl (cI, 7, .inl z_refused_21))] H := hP
    exact hret 13 H locs ls r20 z_s z_refused_21 h rfl dX5_drops_13 hP hS
theorem eSX5_boards : yX5_boards.cls ≠ "java/lang/invoke/MethodHandle" ∧ yX5_boards.cls ≠ "java/lang/invoke/VarHandle" ∧ (parseMethodDescriptor yX5_boards.desc).map (fun d => d.parameters.length) = some 1 := by decide +kernel
theorem eVX5_boards : yX5_boards.cls = RX5 ∧ yX5_boards.cls ≠ "java/lang/invoke/MethodHandle" ∧ yX5_boards.cls ≠ "java/lang/invoke/VarHandle" ∧ (parseMethodDescriptor yX5_boards.desc).map (fun d => d.parameters.length) = some 1 := ⟨rfl, eSX5_boards⟩
abbrev rmX5_boards : Room := { frames := 2, cells := 0, slots := 0, locals := 43 }
def fX5_boards (g : Nat) (p0 : Int32) (z_s : Nat → Int32) (z_refused : Nat → Int32) : Option (Int32 × (Nat → Int32) × (Nat → Int32)) := bd1 (fX5_isHand g p0 z_s) fun r14 => (if r14 = 0 then (bd2 (fX5_no g (-1) z_refused) fun r24 z_refused_25 => (some (r24, z_s, z_refused_25))) else (bd1 (fX5_of g p0 4) fun r17 => (gd (inB r17 45) (gd (inB r17 45) (bd1 (fX5_of g p0 4) fun r21 => (gd (inB r21 45) (some ((upd z_s r17.toNatClampNeg ((z_s r17.toNatClampNeg) ^^^ 1)) r21.toNatClampNeg, upd z_s r17.toNatClampNeg ((z_s r17.toNatClampNeg) ^^^ 1), z_refused))))))))
set_option maxHeartbeats 4000000 in
set_option maxRecDepth 100000 in
theorem kX5_boards (l : Launch) (D : va_G) (cI cJ : ClassId) (sz g : Nat) (a_z a_z_s a_z_m a_z_image a_z_was a_z_letters a_z_row a_z_refused a_z_numbers : Nat) (z_hasImage : Int32) (z_letterMany : Int32) (z_rowMany : Int32) (z_reading : Int32) (z_seed : Int32) (z_s : Nat → Int32) (z_refused : Nat → Int32) (p0 : Int32) (r : Int32) (n_z_s : Nat → Int32) (n_z_refused : Nat → Int32) (hf : fX5_boards g p0 z_s z_refused = some (r, n_z_s, n_z_refused)) : Met l yX5_boards wsX5_boards rmX5_boards (va_Pc [.ref a_z, .int p0] (sPc D (tyL cI cJ) [(a_z, .inr (5, [.ref a_z_s, .ref a_z_m, .ref a_z_image, .ref a_z_was, .int z_hasImage, .ref a_z_letters, .ref a_z_row, .ref a_z_refused, .int z_letterMany, .int z_rowMany, .int z_reading, .ref a_z_numbers, .int z_seed])), (a_z_s, .inl (cI, 45, .inl z_s)), (a_z_refused, .inl (cI, 7, .inl z_refused))] sz)) (qI D (tyL cI cJ) [(a_z, .inr (5, [.ref a_z_s, .ref a_z_m, .ref a_z_image, .ref a_z_was, .int z_hasImage, .ref a_z_letters, .ref a_z_row, .ref a_z_refused, .int z_letterMany, .int z_rowMany, .int z_reading, .ref a_z_numbers, .int z_seed])), (a_z_s, .inl (cI, 45, .inl z_s)), (a_z_refused, .inl (cI, 7, .inl z_refused))] sz [(a_z, .inr (5, [.ref a_z_s, .ref a_z_m, .ref a_z_image, .ref a_z_was, .int z_hasImage, .ref a_z_letters, .ref a_z_row, .ref a_z_refused, .int z_letterMany, .int z_rowMany, .int z_reading, .ref a_z_numbers, .int z_seed])), (a_z_s, .inl (cI, 45, .inl n_z_s)), (a_z_refused, .inl (cI, 7, .inl n_z_refused))] r) 0 0 (va_A [(a_z, .inr (5, [.ref a_z_s, .ref a_z_m, .ref a_z_image, .ref a_z_was, .int z_hasImage, .ref a_z_letters, .ref a_z_row, .ref a_z_refused, .int z_letterMany, .int z_rowMany, .int z_reading, .ref a_z_numbers, .int z_seed])), (a_z_s, .inl (cI, 45, .inl z_s)), (a_z_refused, .inl (cI, 7, .inl z_refused))] sz) := by
  refine st_i (cc := cX5_boards) (maxL := 2) (by decide) rfl (Nat.le_of_ble_eq_true rfl) ?_
  intro p e s m args below meth c A Q F hret0 H locs hP hS ls hl
  have F : Cx p s m args c cX5_boards 2 wsX5_boards RX5 D (tyL cI cJ) A := F
  have hx := F.1.1
  have hb := F.1.2.1
  have hown := F.1.2.2.2.1
  have hts := F.1.2.2.2.2
  have iX5 : ∀ w ∈ wsX50, w ∈ wsX5_boards := fun w h => (List.mem_cons_of_mem _ (List.mem_append_right _ h))
  have hret : ∀ (pc : Nat) (H : Heap) (locs : List Loc) (ls : Array Slot) (r' : Int32) (m_z_s : Nat → Int32) (m_z_refused : Nat → Int32), some (r', m_z_s, m_z_refused) = some (r, n_z_s, n_z_refused) → narrow .int (.int r') = .int r' → decode cX5_boards pc = .ok (.ireturn, 1) → WD D A [(a_z, .inr (5, [.ref a_z_s, .ref a_z_m, .ref a_z_image, .ref a_z_was, .int z_hasImage, .ref a_z_letters, .ref a_z_row, .ref a_z_refused, .int z_letterMany, .int z_rowMany, .int z_reading, .ref a_z_numbers, .int z_seed])), (a_z_s, .inl (cI, 45, .inl m_z_s)), (a_z_refused, .inl (cI, 7, .inl m_z_refused))] H → va_S A s.heap H locs → W p l e rmX5_boards s m args below meth c H locs 0 0 Q (F0 m pc ls [.int r']) := by
    intro pc H locs ls r' m_z_s m_z_refused h hn hd hP hS
    cases h
    exact hret0 pc H locs ls hn hd hP hS
  have hl : lv_has ls 2 [(0, .ref a_z), (1, .int p0)] := hl
  have h := hf
  unfold fX5_boards at h
  refine lv_aload_n hx hb dX5_boards_0 rfl (lv_at hl 0 rfl) ?_
  refine lv_iload_n hx hb dX5_boards_1 rfl (lv_at hl 1 rfl) ?_
  obtain ⟨r14, hk15, h⟩ := bd1_e h
  refine cV_i (rest := []) F (kX5_isHand l D cI cJ H.size g a_z a_z_s a_z_m a_z_image a_z_was a_z_letters a_z_row a_z_refused a_z_numbers z_hasImage z_letterMany z_rowMany z_reading z_seed z_s p0 r14 hk15) (cwV 1 hts gX5_boards_X5_isHand rfl rfl rfl eVX5_isHand ⟨Nat.le_of_ble_eq_true rfl, Nat.le_of_ble_eq_true rfl⟩) [0, 1] hP hS (by decide) rfl rfl 0 rfl rfl rfl hl.1 (Nat.le_of_ble_eq_true rfl) ⟨Nat.le_refl _, Nat.le_refl _⟩ rfl dX5_boards_2 (fun H locs hP hS => ?_)
  have hP : WD D A [(a_z, .inr (5, [.ref a_z_s, .ref a_z_m, .ref a_z_image, .ref a_z_was, .int z_hasImage, .ref a_z_letters, .ref a_z_row, .ref a_z_refused, .int z_letterMany, .int z_rowMany, .int z_reading, .ref a_z_numbers, .int z_seed])), (a_z_s, .inl (cI, 45, .inl z_s)), (a_z_refused, .inl (cI, 7, .inl z_refused))] H := hP
  refine lv_if_ne (tgt := 14) hx hb dX5_boards_5 (by decide) (fun hc16 => ?_) (fun hc16 => ?_)
  · have h := it_n hc16 h
    refine lv_aload_n hx hb dX5_boards_14 rfl (lv_at hl 0 rfl) ?_
    refine gt_X5_9 F iX5 (List.mem_cons_of_mem _ (List.mem_append_left _ (List.mem_of_getElem? (i := 0) rfl))) hP 0 rfl dX5_boards_15 ?_
    refine lv_iload_n hx hb dX5_boards_18 rfl (lv_at hl 1 rfl) ?_
    refine lv_iconst (v := 4) hx hb dX5_boards_19 (by decide) ?_
    obtain ⟨r17, hk18, h⟩ := bd1_e h
    refine cS_i (rest := [.ref a_z_s]) F (kX5_of l D cI cJ H.size g p0 4 r17 hk18) (va_cwS 2 hts gX5_boards_X5_of rfl rfl rfl eSX5_of ⟨Nat.le_of_ble_eq_true rfl, Nat.le_of_ble_eq_true rfl⟩) [] hP hS (by decide) rfl rfl rfl hl.1 (Nat.le_of_ble_eq_true rfl) ⟨Nat.le_refl _, Nat.le_refl _⟩ rfl dX5_boards_20 (fun H locs hP hS => ?_)
    have hP : WD D A [(a_z, .inr (5, [.ref a_z_s, .ref a_z_m, .ref a_z_image, .ref a_z_was, .int z_hasImage, .ref a_z_letters, .ref a_z_row, .ref a_z_refused, .int z_letterMany, .int z_rowMany, .int z_reading, .ref a_z_numbers, .int z_seed])), (a_z_s, .inl (cI, 45, .inl z_s)), (a_z_refused, .inl (cI, 7, .inl z_refused))] H := hP
    refine lv_dup2_11 hx hb dX5_boards_23 rfl rfl ?_
    obtain ⟨hg19, h⟩ := gd_e h
    refine r_ia F hP 1 rfl rfl hg19 dX5_boards_24 ?_
    refine lv_iconst (v := 1) hx hb dX5_boards_25 (by decide) ?_
    refine lv_ixor hx hb dX5_boards_26 ?_
    obtain ⟨hg20, h⟩ := gd_e h
    refine r_is F hP hS 1 rfl rfl hg20 dX5_boards_27 (fun H locs hP hS => ?_)
    have hP : WD D A [(a_z, .inr (5, [.ref a_z_s, .ref a_z_m, .ref a_z_image, .ref a_z_was, .int z_hasImage, .ref a_z_letters, .ref a_z_row, .ref a_z_refused, .int z_letterMany, .int z_rowMany, .int z_reading, .ref a_z_numbers, .int z_seed])), (a_z_s, .inl (cI, 45, .inl (upd z_s r17.toNatClampNeg ((z_s r17.toNatClampNeg) ^^^ 1)))), (a_z_refused, .inl (cI, 7, .inl z_refused))] H := hP
    refine lv_aload_n hx hb dX5_boards_28 rfl (lv_at hl 0 rfl) ?_
    refine gt_X5_9 F iX5 (List.mem_cons_of_mem _ (List.mem_append_left _ (List.mem_of_getElem? (i := 0) rfl))) hP 0 rfl dX5_boards_29 ?_
    refine lv_iload_n hx hb dX5_boards_32 rfl (lv_at hl 1 rfl) ?_
    refine lv_iconst (v := 4) hx hb dX5_boards_33 (by decide) ?_
    obtain ⟨r21, hk22, h⟩ := bd1_e h
    refine cS_i (rest := [.ref a_z_s]) F (kX5_of l D cI cJ H.size g p0 4 r21 hk22) (va_cwS 2 hts gX5_boards_X5_of rfl rfl rfl eSX5_of ⟨Nat.le_of_ble_eq_true rfl, Nat.le_of_ble_eq_true rfl⟩) [] hP hS (by decide) rfl rfl rfl hl.1 (Nat.le_of_ble_eq_true rfl) ⟨Nat.le_refl _, Nat.le_refl _⟩ rfl dX5_boards_34 (fun H locs hP hS => ?_)
    have hP : WD D A [(a_z, .inr (5, [.ref a_z_s, .ref a_z_m, .ref a_z_image, .ref a_z_was, .int z_hasImage, .ref a_z_letters, .ref a_z_row, .ref a_z_refused, .int z_letterMany, .int z_rowMany, .int z_reading, .ref a_z_numbers, .int z_seed])), (a_z_s, .inl (cI, 45, .inl (upd z_s r17.toNatClampNeg ((z_s r17.toNatClampNeg) ^^^ 1)))), (a_z_refused, .inl (cI, 7, .inl z_refused))] H := hP
    obtain ⟨hg23, h⟩ := gd_e h
    refine r_ia F hP 1 rfl rfl hg23 dX5_boards_37 ?_
    exact hret 38 H locs ls ((upd z_s r17.toNatClampNeg ((z_s r17.toNatClampNeg) ^^^ 1)) r21.toNatClampNeg) (upd z_s r17.toNatClampNeg ((z_s r17.toNatClampNeg) ^^^ 1)) z_refused h rfl dX5_boards_38 hP hS
  · have h := it_p hc16 h
    refine lv_aload_n hx hb dX5_boards_8 rfl (lv_at hl 0 rfl) ?_
    refine lv_iconst (v := (-1)) hx hb dX5_boards_9 (by decide) ?_
    obtain ⟨r24, z_refused_25, hk26, h⟩ := bd2_e h
    refine cV_i (rest := []) F (kX5_no l D cI cJ H.size g a_z a_z_s a_z_m a_z_image a_z_was a_z_letters a_z_row a_z_refused a_z_numbers z_hasImage z_letterMany z_rowMany z_reading z_seed z_refused (-1) r24 z_refused_25 hk26) (cwV 1 hts gX5_boards_X5_no rfl rfl rfl eVX5_no ⟨Nat.le_of_ble_eq_true rfl, Nat.le_of_ble_eq_true rfl⟩) [0, 2] hP hS (by decide) rfl rfl 0 rfl rfl rfl hl.1 (Nat.le_of_ble_eq_true rfl) ⟨Nat.le_refl _, Nat.le_refl _⟩ rfl dX5_boards_10 (fun H locs hP hS => ?_)
    have hP : WD D A [(a_z, .inr (5, [.ref a_z_s, .ref a_z_m, .ref a_z_image, .ref a_z_was, .int z_hasImage, .ref a_z_letters, .ref a_z_row, .ref a_z_refused, .int z_letterMany, .int z_rowMany, .int z_reading, .ref a_z_numbers, .int z_seed])), (a_z_s, .inl (cI, 45, .inl z_s)), (a_z_refused, .inl (cI, 7, .inl z_refused_25))] H := hP
    exact hret 13 H locs ls r24 z_s z_refused_25 h rfl dX5_boards_13 hP hS
theorem eSX5_sails : yX5_sails.cls ≠ "java/lang/invoke/MethodHandle" ∧ yX5_sails.cls ≠ "java/lang/invoke/VarHandle" ∧ (parseMethodDescriptor yX5_sails.desc).map (fun d => d.parameters.length) = some 1 := by decide +kernel
theorem eVX5_sails : yX5_sails.cls = RX5 ∧ yX5_sails.cls ≠ "java/lang/invoke/MethodHandle" ∧ yX5_sails.cls ≠ "java/lang/invoke/VarHandle" ∧ (parseMethodDescriptor yX5_sails.desc).map (fun d => d.parameters.length) = some 1 := ⟨rfl, eSX5_sails⟩
abbrev rmX5_sails : Room := { frames := 2, cells := 0, slots := 0, locals := 42 }
def fX5_sails (g : Nat) (p0 : Int32) (z_s : Nat → Int32) (z_refused : Nat → Int32) : Option (Int32 × (Nat → Int32) × (Nat → Int32)) := bd1 (fX5_isCell g p0) fun r7 => (if r7 = 0 then (bd2 (fX5_no g (-1) z_refused) fun r10 z_refused_11 => (some (r10, z_s, z_refused_11))) else (some (z_s 3, upd z_s 3 p0, z_refused)))
set_option maxHeartbeats 4000000 in
set_option maxRecDepth 100000 in
theorem kX5_sails (l : Launch) (D : va_G) (cI cJ : ClassId) (sz g : Nat) (a_z a_z_s a_z_m a_z_image a_z_was a_z_letters a_z_row a_z_refused a_z_numbers : Nat) (z_hasImage : Int32) (z_letterMany : Int32) (z_rowMany : Int32) (z_reading : Int32) (z_seed : Int32) (z_s : Nat → Int32) (z_refused : Nat → Int32) (p0 : Int32) (r : Int32) (n_z_s : Nat → Int32) (n_z_refused : Nat → Int32) (hf : fX5_sails g p0 z_s z_refused = some (r, n_z_s, n_z_refused)) : Met l yX5_sails wsX5_sails rmX5_sails (va_Pc [.ref a_z, .int p0] (sPc D (tyL cI cJ) [(a_z, .inr (5, [.ref a_z_s, .ref a_z_m, .ref a_z_image, .ref a_z_was, .int z_hasImage, .ref a_z_letters, .ref a_z_row, .ref a_z_refused, .int z_letterMany, .int z_rowMany, .int z_reading, .ref a_z_numbers, .int z_seed])), (a_z_s, .inl (cI, 45, .inl z_s)), (a_z_refused, .inl (cI, 7, .inl z_refused))] sz)) (qI D (tyL cI cJ) [(a_z, .inr (5, [.ref a_z_s, .ref a_z_m, .ref a_z_image, .ref a_z_was, .int z_hasImage, .ref a_z_letters, .ref a_z_row, .ref a_z_refused, .int z_letterMany, .int z_rowMany, .int z_reading, .ref a_z_numbers, .int z_seed])), (a_z_s, .inl (cI, 45, .inl z_s)), (a_z_refused, .inl (cI, 7, .inl z_refused))] sz [(a_z, .inr (5, [.ref a_z_s, .ref a_z_m, .ref a_z_image, .ref a_z_was, .int z_hasImage, .ref a_z_letters, .ref a_z_row, .ref a_z_refused, .int z_letterMany, .int z_rowMany, .int z_reading, .ref a_z_numbers, .int z_seed])), (a_z_s, .inl (cI, 45, .inl n_z_s)), (a_z_refused, .inl (cI, 7, .inl n_z_refused))] r) 0 0 (va_A [(a_z, .inr (5, [.ref a_z_s, .ref a_z_m, .ref a_z_image, .ref a_z_was, .int z_hasImage, .ref a_z_letters, .ref a_z_row, .ref a_z_refused, .int z_letterMany, .int z_rowMany, .int z_reading, .ref a_z_numbers, .int z_seed])), (a_z_s, .inl (cI, 45, .inl z_s)), (a_z_refused, .inl (cI, 7, .inl z_refused))] sz) := by
  refine st_i (cc := cX5_sails) (maxL := 3) (by decide) rfl (Nat.le_of_ble_eq_true rfl) ?_
  intro p e s m args below meth c A Q F hret0 H locs hP hS ls hl
  have F : Cx p s m args c cX5_sails 3 wsX5_sails RX5 D (tyL cI cJ) A := F
  have hx := F.1.1
  have hb := F.1.2.1
  have hown := F.1.2.2.2.1
  have hts := F.1.2.2.2.2
  have iX5 : ∀ w ∈ wsX50, w ∈ wsX5_sails := fun w h => (List.mem_cons_of_mem _ (List.mem_append_right _ h))
  have hret : ∀ (pc : Nat) (H : Heap) (locs : List Loc) (ls : Array Slot) (r' : Int32) (m_z_s : Nat → Int32) (m_z_refused : Nat → Int32), some (r', m_z_s, m_z_refused) = some (r, n_z_s, n_z_refused) → narrow .int (.int r') = .int r' → decode cX5_sails pc = .ok (.ireturn, 1) → WD D A [(a_z, .inr (5, [.ref a_z_s, .ref a_z_m, .ref a_z_image, .ref a_z_was, .int z_hasImage, .ref a_z_letters, .ref a_z_row, .ref a_z_refused, .int z_letterMany, .int z_rowMany, .int z_reading, .ref a_z_numbers, .int z_seed])), (a_z_s, .inl (cI, 45, .inl m_z_s)), (a_z_refused, .inl (cI, 7, .inl m_z_refused))] H → va_S A s.heap H locs → W p l e rmX5_sails s m args below meth c H locs 0 0 Q (F0 m pc ls [.int r']) := by
    intro pc H locs ls r' m_z_s m_z_refused h hn hd hP hS
    cases h
    exact hret0 pc H locs ls hn hd hP hS
  have hl : lv_has ls 3 [(0, .ref a_z), (1, .int p0)] := hl
  have h := hf
  unfold fX5_sails at h
  refine lv_iload_n hx hb dX5_sails_0 rfl (lv_at hl 1 rfl) ?_
  obtain ⟨r7, hk8, h⟩ := bd1_e h
  refine cS_i (rest := []) F (kX5_isCell l D cI cJ H.size g p0 r7 hk8) (va_cwS 1 hts gX5_sails_X5_isCell rfl rfl rfl eSX5_isCell ⟨Nat.le_of_ble_eq_true rfl, Nat.le_of_ble_eq_true rfl⟩) [] hP hS (by decide) rfl rfl rfl hl.1 (Nat.le_of_ble_eq_true rfl) ⟨Nat.le_refl _, Nat.le_refl _⟩ rfl dX5_sails_1 (fun H locs hP hS => ?_)
  have hP : WD D A [(a_z, .inr (5, [.ref a_z_s, .ref a_z_m, .ref a_z_image, .ref a_z_was, .int z_hasImage, .ref a_z_letters, .ref a_z_row, .ref a_z_refused, .int z_letterMany, .int z_rowMany, .int z_reading, .ref a_z_numbers, .int z_seed])), (a_z_s, .inl (cI, 45, .inl z_s)), (a_z_refused, .inl (cI, 7, .inl z_refused))] H := hP
  refine lv_if_ne (tgt := 13) hx hb dX5_sails_4 (by decide) (fun hc9 => ?_) (fun hc9 => ?_)
  · have h := it_n hc9 h
    refine lv_aload_n hx hb dX5_sails_13 rfl (lv_at hl 0 rfl) ?_
    refine gt_X5_9 F iX5 (List.mem_cons_of_mem _ (List.mem_append_left _ (List.mem_of_getElem? (i := 0) rfl))) hP 0 rfl dX5_sails_14 ?_
    refine lv_iconst (v := 3) hx hb dX5_sails_17 (by decide) ?_
    refine r_ia F hP 1 rfl (j := 3) rfl (by decide) dX5_sails_18 ?_
    refine lv_istore_n (lv' := [(2, .int (z_s 3)), (0, .ref a_z), (1, .int p0)]) hx hb dX5_sails_19 rfl hl (by decide) rfl (fun ls hl => ?_)
    refine lv_aload_n hx hb dX5_sails_20 rfl (lv_at hl 1 rfl) ?_
    refine gt_X5_9 F iX5 (List.mem_cons_of_mem _ (List.mem_append_left _ (List.mem_of_getElem? (i := 0) rfl))) hP 0 rfl dX5_sails_21 ?_
    refine lv_iconst (v := 3) hx hb dX5_sails_24 (by decide) ?_
    refine lv_iload_n hx hb dX5_sails_25 rfl (lv_at hl 2 rfl) ?_
    refine r_is F hP hS 1 rfl (j := 3) rfl (by decide) dX5_sails_26 (fun H locs hP hS => ?_)
    have hP : WD D A [(a_z, .inr (5, [.ref a_z_s, .ref a_z_m, .ref a_z_image, .ref a_z_was, .int z_hasImage, .ref a_z_letters, .ref a_z_row, .ref a_z_refused, .int z_letterMany, .int z_rowMany, .int z_reading, .ref a_z_numbers, .int z_seed])), (a_z_s, .inl (cI, 45, .inl (upd z_s 3 p0))), (a_z_refused, .inl (cI, 7, .inl z_refused))] H := hP
    refine lv_iload_n hx hb dX5_sails_27 rfl (lv_at hl 0 rfl) ?_
    exact hret 28 H locs ls (z_s 3) (upd z_s 3 p0) z_refused h rfl dX5_sails_28 hP hS
  · have h := it_p hc9 h
    refine lv_aload_n hx hb dX5_sails_7 rfl (lv_at hl 0 rfl) ?_
    refine lv_iconst (v := (-1)) hx hb dX5_sails_8 (by decide) ?_
    obtain ⟨r10, z_refused_11, hk12, h⟩ := bd2_e h
    refine cV_i (rest := []) F (kX5_no l D cI cJ H.size g a_z a_z_s a_z_m a_z_image a_z_was a_z_letters a_z_row a_z_refused a_z_numbers z_hasImage z_letterMany z_rowMany z_reading z_seed z_refused (-1) r10 z_refused_11 hk12) (cwV 1 hts gX5_sails_X5_no rfl rfl rfl eVX5_no ⟨Nat.le_of_ble_eq_true rfl, Nat.le_of_ble_eq_true rfl⟩) [0, 2] hP hS (by decide) rfl rfl 0 rfl rfl rfl hl.1 (Nat.le_of_ble_eq_true rfl) ⟨Nat.le_refl _, Nat.le_refl _⟩ rfl dX5_sails_9 (fun H locs hP hS => ?_)
    have hP : WD D A [(a_z, .inr (5, [.ref a_z_s, .ref a_z_m, .ref a_z_image, .ref a_z_was, .int z_hasImage, .ref a_z_letters, .ref a_z_row, .ref a_z_refused, .int z_letterMany, .int z_rowMany, .int z_reading, .ref a_z_numbers, .int z_seed])), (a_z_s, .inl (cI, 45, .inl z_s)), (a_z_refused, .inl (cI, 7, .inl z_refused_11))] H := hP
    exact hret 12 H locs ls r10 z_s z_refused_11 h rfl dX5_sails_12 hP hS
theorem eSX5_misses : yX5_misses.cls ≠ "java/lang/invoke/MethodHandle" ∧ yX5_misses.cls ≠ "java/lang/invoke/VarHandle" ∧ (parseMethodDescriptor yX5_misses.desc).map (fun d => d.parameters.length) = some 2 := by decide +kernel
theorem eVX5_misses : yX5_misses.cls = RX5 ∧ yX5_misses.cls ≠ "java/lang/invoke/MethodHandle" ∧ yX5_misses.cls ≠ "java/lang/invoke/VarHandle" ∧ (parseMethodDescriptor yX5_misses.desc).map (fun d => d.parameters.length) = some 2 := ⟨rfl, eSX5_misses⟩
abbrev rmX5_misses : Room := { frames := 2, cells := 0, slots := 0, locals := 43 }
def fX5_misses (g : Nat) (p0 : Int32) (p1 : Int32) (z_s : Nat → Int32) (z_refused : Nat → Int32) : Option (Int32 × (Nat → Int32) × (Nat → Int32)) := bd1 (fX5_isHand g p0 z_s) fun r19 => (if r19 = 0 then (bd2 (fX5_no g (-1) z_refused) fun r22 z_refused_23 => (some (r22, z_s, z_refused_23))) else (bd1 (fX5_isPlace g p1 z_s) fun r25 => (if r25 = 0 then (bd2 (fX5_no g (-1) z_refused) fun r34 z_refused_35 => (some (r34, z_s, z_refused_35))) else (bd1 (fX5_of g p0 2) fun r28 => (gd (inB r28 45) (bd1 (fX5_of g p0 2) fun r31 => (gd (inB r31 45) (some (z_s r28.toNatClampNeg, upd z_s r31.toNatClampNeg p1, z_refused)))))))))
set_option maxHeartbeats 4000000 in
set_option maxRecDepth 100000 in
theorem kX5_misses (l : Launch) (D : va_G) (cI cJ : ClassId) (sz g : Nat) (a_z a_z_s a_z_m a_z_image a_z_was a_z_letters a_z_row a_z_refused a_z_numbers : Nat) (z_hasImage : Int32) (z_letterMany : Int32) (z_rowMany : Int32) (z_reading : Int32) (z_seed : Int32) (z_s : Nat → Int32) (z_refused : Nat → Int32) (p0 : Int32) (p1 : Int32) (r : Int32) (n_z_s : Nat → Int32) (n_z_refused : Nat → Int32) (hf : fX5_misses g p0 p1 z_s z_refused = some (r, n_z_s, n_z_refused)) : Met l yX5_misses wsX5_misses rmX5_misses (va_Pc [.ref a_z, .int p0, .int p1] (sPc D (tyL cI cJ) [(a_z, .inr (5, [.ref a_z_s, .ref a_z_m, .ref a_z_image, .ref a_z_was, .int z_hasImage, .ref a_z_letters, .ref a_z_row, .ref a_z_refused, .int z_letterMany, .int z_rowMany, .int z_reading, .ref a_z_numbers, .int z_seed])), (a_z_s, .inl (cI, 45, .inl z_s)), (a_z_refused, .inl (cI, 7, .inl z_refused))] sz)) (qI D (tyL cI cJ) [(a_z, .inr (5, [.ref a_z_s, .ref a_z_m, .ref a_z_image, .ref a_z_was, .int z_hasImage, .ref a_z_letters, .ref a_z_row, .ref a_z_refused, .int z_letterMany, .int z_rowMany, .int z_reading, .ref a_z_numbers, .int z_seed])), (a_z_s, .inl (cI, 45, .inl z_s)), (a_z_refused, .inl (cI, 7, .inl z_refused))] sz [(a_z, .inr (5, [.ref a_z_s, .ref a_z_m, .ref a_z_image, .ref a_z_was, .int z_hasImage, .ref a_z_letters, .ref a_z_row, .ref a_z_refused, .int z_letterMany, .int z_rowMany, .int z_reading, .ref a_z_numbers, .int z_seed])), (a_z_s, .inl (cI, 45, .inl n_z_s)), (a_z_refused, .inl (cI, 7, .inl n_z_refused))] r) 0 0 (va_A [(a_z, .inr (5, [.ref a_z_s, .ref a_z_m, .ref a_z_image, .ref a_z_was, .int z_hasImage, .ref a_z_letters, .ref a_z_row, .ref a_z_refused, .int z_letterMany, .int z_rowMany, .int z_reading, .ref a_z_numbers, .int z_seed])), (a_z_s, .inl (cI, 45, .inl z_s)), (a_z_refused, .inl (cI, 7, .inl z_refused))] sz) := by
  refine st_i (cc := cX5_misses) (maxL := 4) (by decide) rfl (Nat.le_of_ble_eq_true rfl) ?_
  intro p e s m args below meth c A Q F hret0 H locs hP hS ls hl
  have F : Cx p s m args c cX5_misses 4 wsX5_misses RX5 D (tyL cI cJ) A := F
  have hx := F.1.1
  have hb := F.1.2.1
  have hown := F.1.2.2.2.1
  have hts := F.1.2.2.2.2
  have iX5 : ∀ w ∈ wsX50, w ∈ wsX5_misses := fun w h => (List.mem_cons_of_mem _ (List.mem_append_right _ h))
  have hret : ∀ (pc : Nat) (H : Heap) (locs : List Loc) (ls : Array Slot) (r' : Int32) (m_z_s : Nat → Int32) (m_z_refused : Nat → Int32), some (r', m_z_s, m_z_refused) = some (r, n_z_s, n_z_refused) → narrow .int (.int r') = .int r' → decode cX5_misses pc = .ok (.ireturn, 1) → WD D A [(a_z, .inr (5, [.ref a_z_s, .ref a_z_m, .ref a_z_image, .ref a_z_was, .int z_hasImage, .ref a_z_letters, .ref a_z_row, .ref a_z_refused, .int z_letterMany, .int z_rowMany, .int z_reading, .ref a_z_numbers, .int z_seed])), (a_z_s, .inl (cI, 45, .inl m_z_s)), (a_z_refused, .inl (cI, 7, .inl m_z_refused))] H → va_S A s.heap H locs → W p l e rmX5_misses s m args below meth c H locs 0 0 Q (F0 m pc ls [.int r']) := by
    intro pc H locs ls r' m_z_s m_z_refused h hn hd hP hS
    cases h
    exact hret0 pc H locs ls hn hd hP hS
  have hl : lv_has ls 4 [(0, .ref a_z), (1, .int p0), (2, .int p1)] := hl
  have h := hf
  unfold fX5_misses at h
  refine lv_aload_n hx hb dX5_misses_0 rfl (lv_at hl 0 rfl) ?_
  refine lv_iload_n hx hb dX5_misses_1 rfl (lv_at hl 1 rfl) ?_
  obtain ⟨r19, hk20, h⟩ := bd1_e h
  refine cV_i (rest := []) F (kX5_isHand l D cI cJ H.size g a_z a_z_s a_z_m a_z_image a_z_was a_z_letters a_z_row a_z_refused a_z_numbers z_hasImage z_letterMany z_rowMany z_reading z_seed z_s p0 r19 hk20) (cwV 1 hts gX5_misses_X5_isHand rfl rfl rfl eVX5_isHand ⟨Nat.le_of_ble_eq_true rfl, Nat.le_of_ble_eq_true rfl⟩) [0, 1] hP hS (by decide) rfl rfl 0 rfl rfl rfl hl.1 (Nat.le_of_ble_eq_true rfl) ⟨Nat.le_refl _, Nat.le_refl _⟩ rfl dX5_misses_2 (fun H locs hP hS => ?_)
  have hP : WD D A [(a_z, .inr (5, [.ref a_z_s, .ref a_z_m, .ref a_z_image, .ref a_z_was, .int z_hasImage, .ref a_z_letters, .ref a_z_row, .ref a_z_refused, .int z_letterMany, .int z_rowMany, .int z_reading, .ref a_z_numbers, .int z_seed])), (a_z_s, .inl (cI, 45, .inl z_s)), (a_z_refused, .inl (cI, 7, .inl z_refused))] H := hP
  refine lv_if_eq (tgt := 16) hx hb dX5_misses_5 (by decide) (fun hc21 => ?_) (fun hc21 => ?_)
  · have h := it_p hc21 h
    refine lv_aload_n hx hb dX5_misses_16 rfl (lv_at hl 0 rfl) ?_
    refine lv_iconst (v := (-1)) hx hb dX5_misses_17 (by decide) ?_
    obtain ⟨r22, z_refused_23, hk24, h⟩ := bd2_e h
    refine cV_i (rest := []) F (kX5_no l D cI cJ H.size g a_z a_z_s a_z_m a_z_image a_z_was a_z_letters a_z_row a_z_refused a_z_numbers z_hasImage z_letterMany z_rowMany z_reading z_seed z_refused (-1) r22 z_refused_23 hk24) (cwV 1 hts gX5_misses_X5_no rfl rfl rfl eVX5_no ⟨Nat.le_of_ble_eq_true rfl, Nat.le_of_ble_eq_true rfl⟩) [0, 2] hP hS (by decide) rfl rfl 0 rfl rfl rfl hl.1 (Nat.le_of_ble_eq_true rfl) ⟨Nat.le_refl _, Nat.le_refl _⟩ rfl dX5_misses_18 (fun H locs hP hS => ?_)
    have hP : WD D A [(a_z, .inr (5, [.ref a_z_s, .ref a_z_m, .ref a_z_image, .ref a_z_was, .int z_hasImage, .ref a_z_letters, .ref a_z_row, .ref a_z_refused, .int z_letterMany, .int z_rowMany, .int z_reading, .ref a_z_numbers, .int z_seed])), (a_z_s, .inl (cI, 45, .inl z_s)), (a_z_refused, .inl (cI, 7, .inl z_refused_23))] H := hP
    exact hret 21 H locs ls r22 z_s z_refused_23 h rfl dX5_misses_21 hP hS
  · have h := it_n hc21 h
    refine lv_aload_n hx hb dX5_misses_8 rfl (lv_at hl 0 rfl) ?_
    refine lv_iload_n hx hb dX5_misses_9 rfl (lv_at hl 2 rfl) ?_
    obtain ⟨r25, hk26, h⟩ := bd1_e h
    refine cV_i (rest := []) F (kX5_isPlace l D cI cJ H.size g a_z a_z_s a_z_m a_z_image a_z_was a_z_letters a_z_row a_z_refused a_z_numbers z_hasImage z_letterMany z_rowMany z_reading z_seed z_s p1 r25 hk26) (cwV 1 hts gX5_misses_X5_isPlace rfl rfl rfl eVX5_isPlace ⟨Nat.le_of_ble_eq_true rfl, Nat.le_of_ble_eq_true rfl⟩) [0, 1] hP hS (by decide) rfl rfl 0 rfl rfl rfl hl.1 (Nat.le_of_ble_eq_true rfl) ⟨Nat.le_refl _, Nat.le_refl _⟩ rfl dX5_misses_10 (fun H locs hP hS => ?_)
    have hP : WD D A [(a_z, .inr (5, [.ref a_z_s, .ref a_z_m, .ref a_z_image, .ref a_z_was, .int z_hasImage, .ref a_z_letters, .ref a_z_row, .ref a_z_refused, .int z_letterMany, .int z_rowMany, .int z_reading, .ref a_z_numbers, .int z_seed])), (a_z_s, .inl (cI, 45, .inl z_s)), (a_z_refused, .inl (cI, 7, .inl z_refused))] H := hP
    refine lv_if_ne (tgt := 22) hx hb dX5_misses_13 (by decide) (fun hc27 => ?_) (fun hc27 => ?_)
    · have h := it_n hc27 h
      refine lv_aload_n hx hb dX5_misses_22 rfl (lv_at hl 0 rfl) ?_
      refine gt_X5_9 F iX5 (List.mem_cons_of_mem _ (List.mem_append_left _ (List.mem_of_getElem? (i := 0) rfl))) hP 0 rfl dX5_misses_23 ?_
      refine lv_iload_n hx hb dX5_misses_26 rfl (lv_at hl 1 rfl) ?_
      refine lv_iconst (v := 2) hx hb dX5_misses_27 (by decide) ?_
      obtain ⟨r28, hk29, h⟩ := bd1_e h
      refine cS_i (rest := [.ref a_z_s]) F (kX5_of l D cI cJ H.size g p0 2 r28 hk29) (va_cwS 2 hts gX5_misses_X5_of rfl rfl rfl eSX5_of ⟨Nat.le_of_ble_eq_true rfl, Nat.le_of_ble_eq_true rfl⟩) [] hP hS (by decide) rfl rfl rfl hl.1 (Nat.le_of_ble_eq_true rfl) ⟨Nat.le_refl _, Nat.le_refl _⟩ rfl dX5_misses_28 (fun H locs hP hS => ?_)
      have hP : WD D A [(a_z, .inr (5, [.ref a_z_s, .ref a_z_m, .ref a_z_image, .ref a_z_was, .int z_hasImage, .ref a_z_letters, .ref a_z_row, .ref a_z_refused, .int z_letterMany, .int z_rowMany, .int z_reading, .ref a_z_numbers, .int z_seed])), (a_z_s, .inl (cI, 45, .inl z_s)), (a_z_refused, .inl (cI, 7, .inl z_refused))] H := hP
      obtain ⟨hg30, h⟩ := gd_e h
      refine r_ia F hP 1 rfl rfl hg30 dX5_misses_31 ?_
      refine lv_istore_n (lv' := [(3, .int (z_s r28.toNatClampNeg)), (0, .ref a_z), (1, .int p0), (2, .int p1)]) hx hb dX5_misses_32 rfl hl (by decide) rfl (fun ls hl => ?_)
      refine lv_aload_n hx hb dX5_misses_33 rfl (lv_at hl 1 rfl) ?_
      refine gt_X5_9 F iX5 (List.mem_cons_of_mem _ (List.mem_append_left _ (List.mem_of_getElem? (i := 0) rfl))) hP 0 rfl dX5_misses_34 ?_
      refine lv_iload_n hx hb dX5_misses_37 rfl (lv_at hl 2 rfl) ?_
      refine lv_iconst (v := 2) hx hb dX5_misses_38 (by decide) ?_
      obtain ⟨r31, hk32, h⟩ := bd1_e h
      refine cS_i (rest := [.ref a_z_s]) F (kX5_of l D cI cJ H.size g p0 2 r31 hk32) (va_cwS 2 hts gX5_misses_X5_of rfl rfl rfl eSX5_of ⟨Nat.le_of_ble_eq_true rfl, Nat.le_of_ble_eq_true rfl⟩) [] hP hS (by decide) rfl rfl rfl hl.1 (Nat.le_of_ble_eq_true rfl) ⟨Nat.le_refl _, Nat.le_refl _⟩ rfl dX5_misses_39 (fun H locs hP hS => ?_)
      have hP : WD D A [(a_z, .inr (5, [.ref a_z_s, .ref a_z_m, .ref a_z_image, .ref a_z_was, .int z_hasImage, .ref a_z_letters, .ref a_z_row, .ref a_z_refused, .int z_letterMany, .int z_rowMany, .int z_reading, .ref a_z_numbers, .int z_seed])), (a_z_s, .inl (cI, 45, .inl z_s)), (a_z_refused, .inl (cI, 7, .inl z_refused))] H := hP
      refine lv_iload_n hx hb dX5_misses_42 rfl (lv_at hl 3 rfl) ?_
      obtain ⟨hg33, h⟩ := gd_e h
      refine r_is F hP hS 1 rfl rfl hg33 dX5_misses_43 (fun H locs hP hS => ?_)
      have hP : WD D A [(a_z, .inr (5, [.ref a_z_s, .ref a_z_m, .ref a_z_image, .ref a_z_was, .int z_hasImage, .ref a_z_letters, .ref a_z_row, .ref a_z_refused, .int z_letterMany, .int z_rowMany, .int z_reading, .ref a_z_numbers, .int z_seed])), (a_z_s, .inl (cI, 45, .inl (upd z_s r31.toNatClampNeg p1))), (a_z_refused, .inl (cI, 7, .inl z_refused))] H := hP
      refine lv_iload_n hx hb dX5_misses_44 rfl (lv_at hl 0 rfl) ?_
      exact hret 45 H locs ls (z_s r28.toNatClampNeg) (upd z_s r31.toNatClampNeg p1) z_refused h rfl dX5_misses_45 hP hS
    · have h := it_p hc27 h
      refine lv_aload_n hx hb dX5_misses_16 rfl (lv_at hl 0 rfl) ?_
      refine lv_iconst (v := (-1)) hx hb dX5_misses_17 (by decide) ?_
      obtain ⟨r34, z_refused_35, hk36, h⟩ := bd2_e h
      refine cV_i (rest := []) F (kX5_no l D cI cJ H.size g a_z a_z_s a_z_m a_z_image a_z_was a_z_letters a_z_row a_z_refused a_z_numbers z_hasImage z_letterMany z_rowMany z_reading z_seed z_refused (-1) r34 z_refused_35 hk36) (cwV 1 hts gX5_misses_X5_no rfl rfl rfl eVX5_no ⟨Nat.le_of_ble_eq_true rfl, Nat.le_of_ble_eq_true rfl⟩) [0, 2] hP hS (by decide) rfl rfl 0 rfl rfl rfl hl.1 (Nat.le_of_ble_eq_true rfl) ⟨Nat.le_refl _, Nat.le_refl _⟩ rfl dX5_misses_18 (fun H locs hP hS => ?_)
      have hP : WD D A [(a_z, .inr (5, [.ref a_z_s, .ref a_z_m, .ref a_z_image, .ref a_z_was, .int z_hasImage, .ref a_z_letters, .ref a_z_row, .ref a_z_refused, .int z_letterMany, .int z_rowMany, .int z_reading, .ref a_z_numbers, .int z_seed])), (a_z_s, .inl (cI, 45, .inl z_s)), (a_z_refused, .inl (cI, 7, .inl z_refused_35))] H := hP
      exact hret 21 H locs ls r34 z_s z_refused_35 h rfl dX5_misses_21 hP hS
theorem eSX5_wrongBy : yX5_wrongBy.cls ≠ "java/lang/invoke/MethodHandle" ∧ yX5_wrongBy.cls ≠ "java/lang/invoke/VarHandle" ∧ (parseMethodDescriptor yX5_wrongBy.desc).map (fun d => d.parameters.length) = some 3 := by decide +kernel
theorem eVX5_wrongBy : yX5_wrongBy.cls = RX5 ∧ yX5_wrongBy.cls ≠ "java/lang/invoke/MethodHandle" ∧ yX5_wrongBy.cls ≠ "java/lang/invoke/VarHandle" ∧ (parseMethodDescriptor yX5_wrongBy.desc).map (fun d => d.parameters.length) = some 3 := ⟨rfl, eSX5_wrongBy⟩
abbrev rmX5_wrongBy : Room := { frames := 0, cells := 0, slots := 0, locals := 0 }
def fX5_wrongBy (g : Nat) (p0 : Int32) (p1 : Int32) (p2 : Int32) : Option (Int32) := if p1 ≤ p0 then (if p0 ≤ p2 then (some 0) else (some (-6))) else (some (-4))
set_option maxHeartbeats 4000000 in
set_option maxRecDepth 100000 in
theorem kX5_wrongBy (l : Launch) (D : va_G) (cI cJ : ClassId) (sz g : Nat) (p0 : Int32) (p1 : Int32) (p2 : Int32) (r : Int32) (hf : fX5_wrongBy g p0 p1 p2 = some r) : Met l yX5_wrongBy wsX5_wrongBy rmX5_wrongBy (va_Pc [.int p0, .int p1, .int p2] (sPc D (tyL cI cJ) [] sz)) (qI D (tyL cI cJ) [] sz [] r) 0 0 (va_A [] sz) := by
  refine st_i (cc := cX5_wrongBy) (maxL := 3) (by decide) rfl (Nat.le_of_ble_eq_true rfl) ?_
  intro p e s m args below meth c A Q F hret0 H locs hP hS ls hl
  have F : Cx p s m args c cX5_wrongBy 3 wsX5_wrongBy RX5 D (tyL cI cJ) A := F
  have hx := F.1.1
  have hb := F.1.2.1
  have hown := F.1.2.2.2.1
  have hts := F.1.2.2.2.2
  have hret : ∀ (pc : Nat) (H : Heap) (locs : List Loc) (ls : Array Slot) (r' : Int32), some r' = some r → narrow .int (.int r') = .int r' → decode cX5_wrongBy pc = .ok (.ireturn, 1) → WD D A [] H → va_S A s.heap H locs → W p l e rmX5_wrongBy s m args below meth c H locs 0 0 Q (F0 m pc ls [.int r']) := by
    intro pc H locs ls r' h hn hd hP hS
    cases h
    exact hret0 pc H locs ls hn hd hP hS
  have hl : lv_has ls 3 [(0, .int p0), (1, .int p1), (2, .int p2)] := hl
  have h := hf
  unfold fX5_wrongBy at h
  refine lv_iload_n hx hb dX5_wrongBy_0 rfl (lv_at hl 0 rfl) ?_
  refine lv_iload_n hx hb dX5_wrongBy_1 rfl (lv_at hl 1 rfl) ?_
  refine lv_icmp_ge (tgt := 10) hx hb dX5_wrongBy_2 (by decide) (fun hc3 => ?_) (fun hc3 => ?_)
  · have h := it_p hc3 h
    refine lv_iload_n hx hb dX5_wrongBy_10 rfl (lv_at hl 0 rfl) ?_
    refine lv_iload_n hx hb dX5_wrongBy_11 rfl (lv_at hl 2 rfl) ?_
    refine lv_icmp_le (tgt := 20) hx hb dX5_wrongBy_12 (by decide) (fun hc4 => ?_) (fun hc4 => ?_)
    · have h := it_p hc4 h
      refine lv_iconst (v := 0) hx hb dX5_wrongBy_20 (by decide) ?_
      exact hret 21 H locs ls 0 h rfl dX5_wrongBy_21 hP hS
    · have h := it_n hc4 h
      refine lv_bipush (v := (-6)) hx hb dX5_wrongBy_15 (by decide) ?_
      refine lv_goto (tgt := 21) hx hb dX5_wrongBy_17 (by decide) ?_
      exact hret 21 H locs ls (-6) h rfl dX5_wrongBy_21 hP hS
  · have h := it_n hc3 h
    refine lv_bipush (v := (-4)) hx hb dX5_wrongBy_5 (by decide) ?_
    refine lv_goto (tgt := 21) hx hb dX5_wrongBy_7 (by decide) ?_
    exact hret 21 H locs ls (-4) h rfl dX5_wrongBy_21 hP hS
