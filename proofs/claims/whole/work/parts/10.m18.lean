theorem eSX5_strongest : yX5_strongest.cls ≠ "java/lang/invoke/MethodHandle" ∧ yX5_strongest.cls ≠ "java/lang/invoke/VarHandle" ∧ (parseMethodDescriptor yX5_strongest.desc).map (fun d => d.parameters.length) = some 0 := by decide +kernel
theorem eVX5_strongest : yX5_strongest.cls = RX5 ∧ yX5_strongest.cls ≠ "java/lang/invoke/MethodHandle" ∧ yX5_strongest.cls ≠ "java/lang/invoke/VarHandle" ∧ (parseMethodDescriptor yX5_strongest.desc).map (fun d => d.parameters.length) = some 0 := ⟨rfl, eSX5_strongest⟩
abbrev rmX5_strongest : Room := { frames := 3, cells := 0, slots := 0, locals := 65 }
def fX5_strongest_L5_b (g : Nat) (z_s : Nat → Int32) (self : Int32 → Int32 → Option (Int32)) (x1_L5 : Int32) (x2_L5 : Int32) : Option (Int32) := if (z_s 1) ≤ x2_L5 then (some x1_L5) else (bd1 (fX5_isAboard g x2_L5 z_s) fun r3 => (if r3 = 0 then (self x1_L5 (x2_L5 + 1)) else (if x1_L5 < 0 then (self x2_L5 (x2_L5 + 1)) else (bd1 (fX5_leansIn g x2_L5 z_s) fun r7 => (bd1 (fX5_far g r7) fun r9 => (bd1 (fX5_leansIn g x1_L5 z_s) fun r11 => (bd1 (fX5_far g r11) fun r13 => (if r9 ≤ r13 then (self x1_L5 (x2_L5 + 1)) else (self x2_L5 (x2_L5 + 1))))))))))
def fX5_strongest_L5 (g : Nat) (z_s : Nat → Int32) (n : Nat) : Int32 → Int32 → Option (Int32) := lp (fX5_strongest_L5_b g z_s) (fun _ _ => none) n
def fX5_strongest (g : Nat) (z_s : Nat → Int32) : Option (Int32) := bd1 (fX5_strongest_L5 g z_s g (-9) 0) fun t16 => (some t16)
set_option maxHeartbeats 4000000 in
set_option maxRecDepth 100000 in
theorem kX5_strongest (l : Launch) (D : va_G) (cI cJ : ClassId) (sz g : Nat) (a_z a_z_s a_z_m a_z_image a_z_was a_z_letters a_z_row a_z_refused a_z_numbers : Nat) (z_hasImage : Int32) (z_letterMany : Int32) (z_rowMany : Int32) (z_reading : Int32) (z_seed : Int32) (z_s : Nat → Int32) (r : Int32) (hf : fX5_strongest g z_s = some r) : Met l yX5_strongest wsX5_strongest rmX5_strongest (va_Pc [.ref a_z] (sPc D (tyL cI cJ) [(a_z, .inr (5, [.ref a_z_s, .ref a_z_m, .ref a_z_image, .ref a_z_was, .int z_hasImage, .ref a_z_letters, .ref a_z_row, .ref a_z_refused, .int z_letterMany, .int z_rowMany, .int z_reading, .ref a_z_numbers, .int z_seed])), (a_z_s, .inl (cI, 45, .inl z_s))] sz)) (qI D (tyL cI cJ) [(a_z, .inr (5, [.ref a_z_s, .ref a_z_m, .ref a_z_image, .ref a_z_was, .int z_hasImage, .ref a_z_letters, .ref a_z_row, .ref a_z_refused, .int z_letterMany, .int z_rowMany, .int z_reading, .ref a_z_numbers, .int z_seed])), (a_z_s, .inl (cI, 45, .inl z_s))] sz [(a_z, .inr (5, [.ref a_z_s, .ref a_z_m, .ref a_z_image, .ref a_z_was, .int z_hasImage, .ref a_z_letters, .ref a_z_row, .ref a_z_refused, .int z_letterMany, .int z_rowMany, .int z_reading, .ref a_z_numbers, .int z_seed])), (a_z_s, .inl (cI, 45, .inl z_s))] r) 0 0 (va_A [(a_z, .inr (5, [.ref a_z_s, .ref a_z_m, .ref a_z_image, .ref a_z_was, .int z_hasImage, .ref a_z_letters, .ref a_z_row, .ref a_z_refused, .int z_letterMany, .int z_rowMany, .int z_reading, .ref a_z_numbers, .int z_seed])), (a_z_s, .inl (cI, 45, .inl z_s))] sz) := by
  refine st_i (cc := cX5_strongest) (maxL := 3) (by decide) rfl (Nat.le_of_ble_eq_true rfl) ?_
  intro p e s m args below meth c A Q F hret0 H locs hP hS ls hl
  have F : Cx p s m args c cX5_strongest 3 wsX5_strongest RX5 D (tyL cI cJ) A := F
  have hx := F.1.1
  have hb := F.1.2.1
  have hown := F.1.2.2.2.1
  have hts := F.1.2.2.2.2
  have iX5 : ∀ w ∈ wsX50, w ∈ wsX5_strongest := fun w h => (List.mem_cons_of_mem _ (List.mem_append_right _ h))
  have hret : ∀ (pc : Nat) (H : Heap) (locs : List Loc) (ls : Array Slot) (r' : Int32), some r' = some r → narrow .int (.int r') = .int r' → decode cX5_strongest pc = .ok (.ireturn, 1) → WD D A [(a_z, .inr (5, [.ref a_z_s, .ref a_z_m, .ref a_z_image, .ref a_z_was, .int z_hasImage, .ref a_z_letters, .ref a_z_row, .ref a_z_refused, .int z_letterMany, .int z_rowMany, .int z_reading, .ref a_z_numbers, .int z_seed])), (a_z_s, .inl (cI, 45, .inl z_s))] H → va_S A s.heap H locs → W p l e rmX5_strongest s m args below meth c H locs 0 0 Q (F0 m pc ls [.int r']) := by
    intro pc H locs ls r' h hn hd hP hS
    cases h
    exact hret0 pc H locs ls hn hd hP hS
  have L5 : ∀ (n : Nat) (x1_L5 : Int32) (x2_L5 : Int32) (tt0 : Int32) (H : Heap) (locs : List Loc) (ls : Array Slot), fX5_strongest_L5 g z_s n x1_L5 x2_L5 = some tt0 → WD D A [(a_z, .inr (5, [.ref a_z_s, .ref a_z_m, .ref a_z_image, .ref a_z_was, .int z_hasImage, .ref a_z_letters, .ref a_z_row, .ref a_z_refused, .int z_letterMany, .int z_rowMany, .int z_reading, .ref a_z_numbers, .int z_seed])), (a_z_s, .inl (cI, 45, .inl z_s))] H → va_S A s.heap H locs → lv_has ls 3 [(0, .ref a_z), (1, .int x1_L5), (2, .int x2_L5)] → (∀ (H : Heap) (locs : List Loc) (ls : Array Slot), WD D A [(a_z, .inr (5, [.ref a_z_s, .ref a_z_m, .ref a_z_image, .ref a_z_was, .int z_hasImage, .ref a_z_letters, .ref a_z_row, .ref a_z_refused, .int z_letterMany, .int z_rowMany, .int z_reading, .ref a_z_numbers, .int z_seed])), (a_z_s, .inl (cI, 45, .inl z_s))] H → va_S A s.heap H locs → lv_has ls 3 [(1, .int tt0)] → W p l e rmX5_strongest s m args below meth c H locs 0 0 Q (F0 m 63 ls [])) → W p l e rmX5_strongest s m args below meth c H locs 0 0 Q (F0 m 5 ls []) := by
    intro n
    induction n with
    | zero =>
      intro x1_L5 x2_L5 tt0 H locs ls h
      exact (no_some h).elim
    | succ n ih =>
      intro x1_L5 x2_L5 tt0 H locs ls h hP hS hl kE
      have h : fX5_strongest_L5_b g z_s (fX5_strongest_L5 g z_s n) x1_L5 x2_L5 = some tt0 := h
      unfold fX5_strongest_L5_b at h
      refine lv_iload_n hx hb dX5_strongest_5 rfl (lv_at hl 2 rfl) ?_
      refine lv_aload_n hx hb dX5_strongest_6 rfl (lv_at hl 0 rfl) ?_
      refine gt_X5_9 F iX5 (List.mem_cons_of_mem _ (List.mem_append_left _ (List.mem_of_getElem? (i := 0) rfl))) hP 0 rfl dX5_strongest_7 ?_
      refine lv_iconst (v := 1) hx hb dX5_strongest_10 (by decide) ?_
      refine r_ia F hP 1 rfl (j := 1) rfl (by decide) dX5_strongest_11 ?_
      refine lv_icmp_ge (tgt := 63) hx hb dX5_strongest_12 (by decide) (fun hc2 => ?_) (fun hc2 => ?_)
      · have h := it_p hc2 h
        cases h
        exact kE H locs ls hP hS (lv_sub hl [1] rfl)
      · have h := it_n hc2 h
        refine lv_aload_n hx hb dX5_strongest_15 rfl (lv_at hl 0 rfl) ?_
        refine gt_X5_9 F iX5 (List.mem_cons_of_mem _ (List.mem_append_left _ (List.mem_of_getElem? (i := 0) rfl))) hP 0 rfl dX5_strongest_16 ?_
        refine lv_iload_n hx hb dX5_strongest_19 rfl (lv_at hl 2 rfl) ?_
        obtain ⟨r3, hk4, h⟩ := bd1_e h
        refine cS_i (rest := []) F (kX5_isAboard l D cI cJ H.size g a_z_s z_s x2_L5 r3 hk4) (va_cwS 2 hts gX5_strongest_X5_isAboard rfl rfl rfl eSX5_isAboard ⟨Nat.le_of_ble_eq_true rfl, Nat.le_of_ble_eq_true rfl⟩) [1] hP hS (by decide) rfl rfl rfl hl.1 (Nat.le_of_ble_eq_true rfl) ⟨Nat.le_refl _, Nat.le_refl _⟩ rfl dX5_strongest_20 (fun H locs hP hS => ?_)
        have hP : WD D A [(a_z, .inr (5, [.ref a_z_s, .ref a_z_m, .ref a_z_image, .ref a_z_was, .int z_hasImage, .ref a_z_letters, .ref a_z_row, .ref a_z_refused, .int z_letterMany, .int z_rowMany, .int z_reading, .ref a_z_numbers, .int z_seed])), (a_z_s, .inl (cI, 45, .inl z_s))] H := hP
        refine lv_if_eq (tgt := 57) hx hb dX5_strongest_23 (by decide) (fun hc5 => ?_) (fun hc5 => ?_)
        · have h := it_p hc5 h
          refine lv_iinc (v := x2_L5 + 1) (lv' := [(2, .int (x2_L5 + 1)), (0, .ref a_z), (1, .int x1_L5)]) hx hb dX5_strongest_57 hl (k := 2) rfl rfl (by decide) rfl (fun ls hl => ?_)
          refine lv_goto (tgt := 5) hx hb dX5_strongest_60 (by decide) ?_
          exact ih x1_L5 (x2_L5 + 1) tt0 H locs ls h hP hS (lv_sub hl [1, 2, 0] rfl) kE
        · have h := it_n hc5 h
          refine lv_iload_n hx hb dX5_strongest_26 rfl (lv_at hl 1 rfl) ?_
          refine lv_if_lt (tgt := 55) hx hb dX5_strongest_27 (by decide) (fun hc6 => ?_) (fun hc6 => ?_)
          · have h := it_p hc6 h
            refine lv_iload_n hx hb dX5_strongest_55 rfl (lv_at hl 2 rfl) ?_
            refine lv_istore_n (lv' := [(1, .int x2_L5), (0, .ref a_z), (2, .int x2_L5)]) hx hb dX5_strongest_56 rfl hl (by decide) rfl (fun ls hl => ?_)
            refine lv_iinc (v := x2_L5 + 1) (lv' := [(2, .int (x2_L5 + 1)), (1, .int x2_L5), (0, .ref a_z)]) hx hb dX5_strongest_57 hl (k := 2) rfl rfl (by decide) rfl (fun ls hl => ?_)
            refine lv_goto (tgt := 5) hx hb dX5_strongest_60 (by decide) ?_
            exact ih x2_L5 (x2_L5 + 1) tt0 H locs ls h hP hS (lv_sub hl [2, 1, 0] rfl) kE
          · have h := it_n hc6 h
            refine lv_aload_n hx hb dX5_strongest_30 rfl (lv_at hl 0 rfl) ?_
            refine gt_X5_9 F iX5 (List.mem_cons_of_mem _ (List.mem_append_left _ (List.mem_of_getElem? (i := 0) rfl))) hP 0 rfl dX5_strongest_31 ?_
            refine lv_iload_n hx hb dX5_strongest_34 rfl (lv_at hl 2 rfl) ?_
            obtain ⟨r7, hk8, h⟩ := bd1_e h
            refine cS_i (rest := []) F (kX5_leansIn l D cI cJ H.size g a_z_s z_s x2_L5 r7 hk8) (va_cwS 2 hts gX5_strongest_X5_leansIn rfl rfl rfl eSX5_leansIn ⟨Nat.le_of_ble_eq_true rfl, Nat.le_of_ble_eq_true rfl⟩) [1] hP hS (by decide) rfl rfl rfl hl.1 (Nat.le_of_ble_eq_true rfl) ⟨Nat.le_refl _, Nat.le_refl _⟩ rfl dX5_strongest_35 (fun H locs hP hS => ?_)
            have hP : WD D A [(a_z, .inr (5, [.ref a_z_s, .ref a_z_m, .ref a_z_image, .ref a_z_was, .int z_hasImage, .ref a_z_letters, .ref a_z_row, .ref a_z_refused, .int z_letterMany, .int z_rowMany, .int z_reading, .ref a_z_numbers, .int z_seed])), (a_z_s, .inl (cI, 45, .inl z_s))] H := hP
            obtain ⟨r9, hk10, h⟩ := bd1_e h
            refine cS_i (rest := []) F (kX5_far l D cI cJ H.size g r7 r9 hk10) (va_cwS 1 hts gX5_strongest_X5_far rfl rfl rfl eSX5_far ⟨Nat.le_of_ble_eq_true rfl, Nat.le_of_ble_eq_true rfl⟩) [] hP hS (by decide) rfl rfl rfl hl.1 (Nat.le_of_ble_eq_true rfl) ⟨Nat.le_refl _, Nat.le_refl _⟩ rfl dX5_strongest_38 (fun H locs hP hS => ?_)
            have hP : WD D A [(a_z, .inr (5, [.ref a_z_s, .ref a_z_m, .ref a_z_image, .ref a_z_was, .int z_hasImage, .ref a_z_letters, .ref a_z_row, .ref a_z_refused, .int z_letterMany, .int z_rowMany, .int z_reading, .ref a_z_numbers, .int z_seed])), (a_z_s, .inl (cI, 45, .inl z_s))] H := hP
            refine lv_aload_n hx hb dX5_strongest_41 rfl (lv_at hl 0 rfl) ?_
            refine gt_X5_9 F iX5 (List.mem_cons_of_mem _ (List.mem_append_left _ (List.mem_of_getElem? (i := 0) rfl))) hP 0 rfl dX5_strongest_42 ?_
            refine lv_iload_n hx hb dX5_strongest_45 rfl (lv_at hl 1 rfl) ?_
            obtain ⟨r11, hk12, h⟩ := bd1_e h
            refine cS_i (rest := [.int r9]) F (kX5_leansIn l D cI cJ H.size g a_z_s z_s x1_L5 r11 hk12) (va_cwS 2 hts gX5_strongest_X5_leansIn rfl rfl rfl eSX5_leansIn ⟨Nat.le_of_ble_eq_true rfl, Nat.le_of_ble_eq_true rfl⟩) [1] hP hS (by decide) rfl rfl rfl hl.1 (Nat.le_of_ble_eq_true rfl) ⟨Nat.le_refl _, Nat.le_refl _⟩ rfl dX5_strongest_46 (fun H locs hP hS => ?_)
            have hP : WD D A [(a_z, .inr (5, [.ref a_z_s, .ref a_z_m, .ref a_z_image, .ref a_z_was, .int z_hasImage, .ref a_z_letters, .ref a_z_row, .ref a_z_refused, .int z_letterMany, .int z_rowMany, .int z_reading, .ref a_z_numbers, .int z_seed])), (a_z_s, .inl (cI, 45, .inl z_s))] H := hP
            obtain ⟨r13, hk14, h⟩ := bd1_e h
            refine cS_i (rest := [.int r9]) F (kX5_far l D cI cJ H.size g r11 r13 hk14) (va_cwS 1 hts gX5_strongest_X5_far rfl rfl rfl eSX5_far ⟨Nat.le_of_ble_eq_true rfl, Nat.le_of_ble_eq_true rfl⟩) [] hP hS (by decide) rfl rfl rfl hl.1 (Nat.le_of_ble_eq_true rfl) ⟨Nat.le_refl _, Nat.le_refl _⟩ rfl dX5_strongest_49 (fun H locs hP hS => ?_)
            have hP : WD D A [(a_z, .inr (5, [.ref a_z_s, .ref a_z_m, .ref a_z_image, .ref a_z_was, .int z_hasImage, .ref a_z_letters, .ref a_z_row, .ref a_z_refused, .int z_letterMany, .int z_rowMany, .int z_reading, .ref a_z_numbers, .int z_seed])), (a_z_s, .inl (cI, 45, .inl z_s))] H := hP
            refine lv_icmp_le (tgt := 57) hx hb dX5_strongest_52 (by decide) (fun hc15 => ?_) (fun hc15 => ?_)
            · have h := it_p hc15 h
              refine lv_iinc (v := x2_L5 + 1) (lv' := [(2, .int (x2_L5 + 1)), (0, .ref a_z), (1, .int x1_L5)]) hx hb dX5_strongest_57 hl (k := 2) rfl rfl (by decide) rfl (fun ls hl => ?_)
              refine lv_goto (tgt := 5) hx hb dX5_strongest_60 (by decide) ?_
              exact ih x1_L5 (x2_L5 + 1) tt0 H locs ls h hP hS (lv_sub hl [1, 2, 0] rfl) kE
            · have h := it_n hc15 h
              refine lv_iload_n hx hb dX5_strongest_55 rfl (lv_at hl 2 rfl) ?_
              refine lv_istore_n (lv' := [(1, .int x2_L5), (0, .ref a_z), (2, .int x2_L5)]) hx hb dX5_strongest_56 rfl hl (by decide) rfl (fun ls hl => ?_)
              refine lv_iinc (v := x2_L5 + 1) (lv' := [(2, .int (x2_L5 + 1)), (1, .int x2_L5), (0, .ref a_z)]) hx hb dX5_strongest_57 hl (k := 2) rfl rfl (by decide) rfl (fun ls hl => ?_)
              refine lv_goto (tgt := 5) hx hb dX5_strongest_60 (by decide) ?_
              exact ih x2_L5 (x2_L5 + 1) tt0 H locs ls h hP hS (lv_sub hl [2, 1, 0] rfl) kE
  have hl : lv_has ls 3 [(0, .ref a_z)] := hl
  have h := hf
  unfold fX5_strongest at h
  refine lv_bipush (v := (-9)) hx hb dX5_strongest_0 (by decide) ?_
  refine lv_istore_n (lv' := [(1, .int (-9)), (0, .ref a_z)]) hx hb dX5_strongest_2 rfl hl (by decide) rfl (fun ls hl => ?_)
  refine lv_iconst (v := 0) hx hb dX5_strongest_3 (by decide) ?_
  refine lv_istore_n (lv' := [(2, .int 0), (1, .int (-9)), (0, .ref a_z)]) hx hb dX5_strongest_4 rfl hl (by decide) rfl (fun ls hl => ?_)
  obtain ⟨t16, hk17, h⟩ := bd1_e h
  refine L5 g (-9) 0 t16 H locs ls hk17 hP hS (lv_sub hl [2, 1, 0] rfl) (fun H locs ls hP hS hl => ?_)
  refine lv_iload_n hx hb dX5_strongest_63 rfl (lv_at hl 0 rfl) ?_
  exact hret 64 H locs ls t16 h rfl dX5_strongest_64 hP hS
theorem eSX5_missedBy : yX5_missedBy.cls ≠ "java/lang/invoke/MethodHandle" ∧ yX5_missedBy.cls ≠ "java/lang/invoke/VarHandle" ∧ (parseMethodDescriptor yX5_missedBy.desc).map (fun d => d.parameters.length) = some 1 := by decide +kernel
theorem eVX5_missedBy : yX5_missedBy.cls = RX5 ∧ yX5_missedBy.cls ≠ "java/lang/invoke/MethodHandle" ∧ yX5_missedBy.cls ≠ "java/lang/invoke/VarHandle" ∧ (parseMethodDescriptor yX5_missedBy.desc).map (fun d => d.parameters.length) = some 1 := ⟨rfl, eSX5_missedBy⟩
abbrev rmX5_missedBy : Room := { frames := 3, cells := 0, slots := 0, locals := 65 }
def fX5_missedBy_L4_b (g : Nat) (x1_L4 : Int32) (z_s : Nat → Int32) (self : Int32 → Int32 → Option (Int32)) (x2_L4 : Int32) (x3_L4 : Int32) : Option (Int32) := if (z_s 1) ≤ x3_L4 then (some x2_L4) else (bd1 (fX5_isAboard g x3_L4 z_s) fun r3 => (if r3 = 0 then (self (x2_L4 + 0) (x3_L4 + 1)) else (bd1 (fX5_of g x3_L4 2) fun r6 => (gd (inB r6 45) (if (z_s r6.toNatClampNeg) = x1_L4 then (bd1 (fX5_leansIn g x3_L4 z_s) fun r10 => (self (x2_L4 + r10) (x3_L4 + 1))) else (self (x2_L4 + 0) (x3_L4 + 1)))))))
def fX5_missedBy_L4 (g : Nat) (x1_L4 : Int32) (z_s : Nat → Int32) (n : Nat) : Int32 → Int32 → Option (Int32) := lp (fX5_missedBy_L4_b g x1_L4 z_s) (fun _ _ => none) n
def fX5_missedBy (g : Nat) (p0 : Int32) (z_s : Nat → Int32) : Option (Int32) := bd1 (fX5_missedBy_L4 g p0 z_s g 0 0) fun t12 => (some t12)
set_option maxHeartbeats 4000000 in
set_option maxRecDepth 100000 in
theorem kX5_missedBy (l : Launch) (D : va_G) (cI cJ : ClassId) (sz g : Nat) (a_z a_z_s a_z_m a_z_image a_z_was a_z_letters a_z_row a_z_refused a_z_numbers : Nat) (z_hasImage : Int32) (z_letterMany : Int32) (z_rowMany : Int32) (z_reading : Int32) (z_seed : Int32) (z_s : Nat → Int32) (p0 : Int32) (r : Int32) (hf : fX5_missedBy g p0 z_s = some r) : Met l yX5_missedBy wsX5_missedBy rmX5_missedBy (va_Pc [.ref a_z, .int p0] (sPc D (tyL cI cJ) [(a_z, .inr (5, [.ref a_z_s, .ref a_z_m, .ref a_z_image, .ref a_z_was, .int z_hasImage, .ref a_z_letters, .ref a_z_row, .ref a_z_refused, .int z_letterMany, .int z_rowMany, .int z_reading, .ref a_z_numbers, .int z_seed])), (a_z_s, .inl (cI, 45, .inl z_s))] sz)) (qI D (tyL cI cJ) [(a_z, .inr (5, [.ref a_z_s, .ref a_z_m, .ref a_z_image, .ref a_z_was, .int z_hasImage, .ref a_z_letters, .ref a_z_row, .ref a_z_refused, .int z_letterMany, .int z_rowMany, .int z_reading, .ref a_z_numbers, .int z_seed])), (a_z_s, .inl (cI, 45, .inl z_s))] sz [(a_z, .inr (5, [.ref a_z_s, .ref a_z_m, .ref a_z_image, .ref a_z_was, .int z_hasImage, .ref a_z_letters, .ref a_z_row, .ref a_z_refused, .int z_letterMany, .int z_rowMany, .int z_reading, .ref a_z_numbers, .int z_seed])), (a_z_s, .inl (cI, 45, .inl z_s))] r) 0 0 (va_A [(a_z, .inr (5, [.ref a_z_s, .ref a_z_m, .ref a_z_image, .ref a_z_was, .int z_hasImage, .ref a_z_letters, .ref a_z_row, .ref a_z_refused, .int z_letterMany, .int z_rowMany, .int z_reading, .ref a_z_numbers, .int z_seed])), (a_z_s, .inl (cI, 45, .inl z_s))] sz) := by
  refine st_i (cc := cX5_missedBy) (maxL := 4) (by decide) rfl (Nat.le_of_ble_eq_true rfl) ?_
  intro p e s m args below meth c A Q F hret0 H locs hP hS ls hl
  have F : Cx p s m args c cX5_missedBy 4 wsX5_missedBy RX5 D (tyL cI cJ) A := F
  have hx := F.1.1
  have hb := F.1.2.1
  have hown := F.1.2.2.2.1
  have hts := F.1.2.2.2.2
  have iX5 : ∀ w ∈ wsX50, w ∈ wsX5_missedBy := fun w h => (List.mem_cons_of_mem _ (List.mem_append_right _ h))
  have hret : ∀ (pc : Nat) (H : Heap) (locs : List Loc) (ls : Array Slot) (r' : Int32), some r' = some r → narrow .int (.int r') = .int r' → decode cX5_missedBy pc = .ok (.ireturn, 1) → WD D A [(a_z, .inr (5, [.ref a_z_s, .ref a_z_m, .ref a_z_image, .ref a_z_was, .int z_hasImage, .ref a_z_letters, .ref a_z_row, .ref a_z_refused, .int z_letterMany, .int z_rowMany, .int z_reading, .ref a_z_numbers, .int z_seed])), (a_z_s, .inl (cI, 45, .inl z_s))] H → va_S A s.heap H locs → W p l e rmX5_missedBy s m args below meth c H locs 0 0 Q (F0 m pc ls [.int r']) := by
    intro pc H locs ls r' h hn hd hP hS
    cases h
    exact hret0 pc H locs ls hn hd hP hS
  have L4 : ∀ (x1_L4 : Int32) (n : Nat) (x2_L4 : Int32) (x3_L4 : Int32) (tt0 : Int32) (H : Heap) (locs : List Loc) (ls : Array Slot), fX5_missedBy_L4 g x1_L4 z_s n x2_L4 x3_L4 = some tt0 → WD D A [(a_z, .inr (5, [.ref a_z_s, .ref a_z_m, .ref a_z_image, .ref a_z_was, .int z_hasImage, .ref a_z_letters, .ref a_z_row, .ref a_z_refused, .int z_letterMany, .int z_rowMany, .int z_reading, .ref a_z_numbers, .int z_seed])), (a_z_s, .inl (cI, 45, .inl z_s))] H → va_S A s.heap H locs → lv_has ls 4 [(0, .ref a_z), (1, .int x1_L4), (2, .int x2_L4), (3, .int x3_L4)] → (∀ (H : Heap) (locs : List Loc) (ls : Array Slot), WD D A [(a_z, .inr (5, [.ref a_z_s, .ref a_z_m, .ref a_z_image, .ref a_z_was, .int z_hasImage, .ref a_z_letters, .ref a_z_row, .ref a_z_refused, .int z_letterMany, .int z_rowMany, .int z_reading, .ref a_z_numbers, .int z_seed])), (a_z_s, .inl (cI, 45, .inl z_s))] H → va_S A s.heap H locs → lv_has ls 4 [(2, .int tt0)] → W p l e rmX5_missedBy s m args below meth c H locs 0 0 Q (F0 m 60 ls [])) → W p l e rmX5_missedBy s m args below meth c H locs 0 0 Q (F0 m 4 ls []) := by
    intro x1_L4 n
    induction n with
    | zero =>
      intro x2_L4 x3_L4 tt0 H locs ls h
      exact (no_some h).elim
    | succ n ih =>
      intro x2_L4 x3_L4 tt0 H locs ls h hP hS hl kE
      have h : fX5_missedBy_L4_b g x1_L4 z_s (fX5_missedBy_L4 g x1_L4 z_s n) x2_L4 x3_L4 = some tt0 := h
      unfold fX5_missedBy_L4_b at h
      refine lv_iload_n hx hb dX5_missedBy_4 rfl (lv_at hl 3 rfl) ?_
      refine lv_aload_n hx hb dX5_missedBy_5 rfl (lv_at hl 0 rfl) ?_
      refine gt_X5_9 F iX5 (List.mem_cons_of_mem _ (List.mem_append_left _ (List.mem_of_getElem? (i := 0) rfl))) hP 0 rfl dX5_missedBy_6 ?_
      refine lv_iconst (v := 1) hx hb dX5_missedBy_9 (by decide) ?_
      refine r_ia F hP 1 rfl (j := 1) rfl (by decide) dX5_missedBy_10 ?_
      refine lv_icmp_ge (tgt := 60) hx hb dX5_missedBy_11 (by decide) (fun hc2 => ?_) (fun hc2 => ?_)
      · have h := it_p hc2 h
        cases h
        exact kE H locs ls hP hS (lv_sub hl [2] rfl)
      · have h := it_n hc2 h
        refine lv_iload_n hx hb dX5_missedBy_14 rfl (lv_at hl 2 rfl) ?_
        refine lv_aload_n hx hb dX5_missedBy_15 rfl (lv_at hl 0 rfl) ?_
        refine gt_X5_9 F iX5 (List.mem_cons_of_mem _ (List.mem_append_left _ (List.mem_of_getElem? (i := 0) rfl))) hP 0 rfl dX5_missedBy_16 ?_
        refine lv_iload_n hx hb dX5_missedBy_19 rfl (lv_at hl 3 rfl) ?_
        obtain ⟨r3, hk4, h⟩ := bd1_e h
        refine cS_i (rest := [.int x2_L4]) F (kX5_isAboard l D cI cJ H.size g a_z_s z_s x3_L4 r3 hk4) (va_cwS 2 hts gX5_missedBy_X5_isAboard rfl rfl rfl eSX5_isAboard ⟨Nat.le_of_ble_eq_true rfl, Nat.le_of_ble_eq_true rfl⟩) [1] hP hS (by decide) rfl rfl rfl hl.1 (Nat.le_of_ble_eq_true rfl) ⟨Nat.le_refl _, Nat.le_refl _⟩ rfl dX5_missedBy_20 (fun H locs hP hS => ?_)
        have hP : WD D A [(a_z, .inr (5, [.ref a_z_s, .ref a_z_m, .ref a_z_image, .ref a_z_was, .int z_hasImage, .ref a_z_letters, .ref a_z_row, .ref a_z_refused, .int z_letterMany, .int z_rowMany, .int z_reading, .ref a_z_numbers, .int z_seed])), (a_z_s, .inl (cI, 45, .inl z_s))] H := hP
        refine lv_if_eq (tgt := 51) hx hb dX5_missedBy_23 (by decide) (fun hc5 => ?_) (fun hc5 => ?_)
        · have h := it_p hc5 h
          refine lv_iconst (v := 0) hx hb dX5_missedBy_51 (by decide) ?_
          refine lv_iadd hx hb dX5_missedBy_52 ?_
          refine lv_istore_n (lv' := [(2, .int (x2_L4 + 0)), (0, .ref a_z), (1, .int x1_L4), (3, .int x3_L4)]) hx hb dX5_missedBy_53 rfl hl (by decide) rfl (fun ls hl => ?_)
          refine lv_iinc (v := x3_L4 + 1) (lv' := [(3, .int (x3_L4 + 1)), (2, .int (x2_L4 + 0)), (0, .ref a_z), (1, .int x1_L4)]) hx hb dX5_missedBy_54 hl (k := 3) rfl rfl (by decide) rfl (fun ls hl => ?_)
          refine lv_goto (tgt := 4) hx hb dX5_missedBy_57 (by decide) ?_
          exact ih (x2_L4 + 0) (x3_L4 + 1) tt0 H locs ls h hP hS (lv_sub hl [2, 3, 1, 0] rfl) kE
        · have h := it_n hc5 h
          refine lv_aload_n hx hb dX5_missedBy_26 rfl (lv_at hl 0 rfl) ?_
          refine gt_X5_9 F iX5 (List.mem_cons_of_mem _ (List.mem_append_left _ (List.mem_of_getElem? (i := 0) rfl))) hP 0 rfl dX5_missedBy_27 ?_
          refine lv_iload_n hx hb dX5_missedBy_30 rfl (lv_at hl 3 rfl) ?_
          refine lv_iconst (v := 2) hx hb dX5_missedBy_31 (by decide) ?_
          obtain ⟨r6, hk7, h⟩ := bd1_e h
          refine cS_i (rest := [.ref a_z_s, .int x2_L4]) F (kX5_of l D cI cJ H.size g x3_L4 2 r6 hk7) (va_cwS 2 hts gX5_missedBy_X5_of rfl rfl rfl eSX5_of ⟨Nat.le_of_ble_eq_true rfl, Nat.le_of_ble_eq_true rfl⟩) [] hP hS (by decide) rfl rfl rfl hl.1 (Nat.le_of_ble_eq_true rfl) ⟨Nat.le_refl _, Nat.le_refl _⟩ rfl dX5_missedBy_32 (fun H locs hP hS => ?_)
          have hP : WD D A [(a_z, .inr (5, [.ref a_z_s, .ref a_z_m, .ref a_z_image, .ref a_z_was, .int z_hasImage, .ref a_z_letters, .ref a_z_row, .ref a_z_refused, .int z_letterMany, .int z_rowMany, .int z_reading, .ref a_z_numbers, .int z_seed])), (a_z_s, .inl (cI, 45, .inl z_s))] H := hP
          obtain ⟨hg8, h⟩ := gd_e h
          refine r_ia F hP 1 rfl rfl hg8 dX5_missedBy_35 ?_
          refine lv_iload_n hx hb dX5_missedBy_36 rfl (lv_at hl 1 rfl) ?_
          refine lv_icmp_ne (tgt := 51) hx hb dX5_missedBy_37 (by decide) (fun hc9 => ?_) (fun hc9 => ?_)
          · have h := it_n hc9 h
            refine lv_iconst (v := 0) hx hb dX5_missedBy_51 (by decide) ?_
            refine lv_iadd hx hb dX5_missedBy_52 ?_
            refine lv_istore_n (lv' := [(2, .int (x2_L4 + 0)), (0, .ref a_z), (1, .int x1_L4), (3, .int x3_L4)]) hx hb dX5_missedBy_53 rfl hl (by decide) rfl (fun ls hl => ?_)
            refine lv_iinc (v := x3_L4 + 1) (lv' := [(3, .int (x3_L4 + 1)), (2, .int (x2_L4 + 0)), (0, .ref a_z), (1, .int x1_L4)]) hx hb dX5_missedBy_54 hl (k := 3) rfl rfl (by decide) rfl (fun ls hl => ?_)
            refine lv_goto (tgt := 4) hx hb dX5_missedBy_57 (by decide) ?_
            exact ih (x2_L4 + 0) (x3_L4 + 1) tt0 H locs ls h hP hS (lv_sub hl [2, 3, 1, 0] rfl) kE
          · have h := it_p hc9 h
            refine lv_aload_n hx hb dX5_missedBy_40 rfl (lv_at hl 0 rfl) ?_
            refine gt_X5_9 F iX5 (List.mem_cons_of_mem _ (List.mem_append_left _ (List.mem_of_getElem? (i := 0) rfl))) hP 0 rfl dX5_missedBy_41 ?_
            refine lv_iload_n hx hb dX5_missedBy_44 rfl (lv_at hl 3 rfl) ?_
            obtain ⟨r10, hk11, h⟩ := bd1_e h
            refine cS_i (rest := [.int x2_L4]) F (kX5_leansIn l D cI cJ H.size g a_z_s z_s x3_L4 r10 hk11) (va_cwS 2 hts gX5_missedBy_X5_leansIn rfl rfl rfl eSX5_leansIn ⟨Nat.le_of_ble_eq_true rfl, Nat.le_of_ble_eq_true rfl⟩) [1] hP hS (by decide) rfl rfl rfl hl.1 (Nat.le_of_ble_eq_true rfl) ⟨Nat.le_refl _, Nat.le_refl _⟩ rfl dX5_missedBy_45 (fun H locs hP hS => ?_)
            have hP : WD D A [(a_z, .inr (5, [.ref a_z_s, .ref a_z_m, .ref a_z_image, .ref a_z_was, .int z_hasImage, .ref a_z_letters, .ref a_z_row, .ref a_z_refused, .int z_letterMany, .int z_rowMany, .int z_reading, .ref a_z_numbers, .int z_seed])), (a_z_s, .inl (cI, 45, .inl z_s))] H := hP
            refine lv_goto (tgt := 52) hx hb dX5_missedBy_48 (by decide) ?_
            refine lv_iadd hx hb dX5_missedBy_52 ?_
            refine lv_istore_n (lv' := [(2, .int (x2_L4 + r10)), (0, .ref a_z), (1, .int x1_L4), (3, .int x3_L4)]) hx hb dX5_missedBy_53 rfl hl (by decide) rfl (fun ls hl => ?_)
            refine lv_iinc (v := x3_L4 + 1) (lv' := [(3, .int (x3_L4 + 1)), (2, .int (x2_L4 + r10)), (0, .ref a_z), (1, .int x1_L4)]) hx hb dX5_missedBy_54 hl (k := 3) rfl rfl (by decide) rfl (fun ls hl => ?_)
            refine lv_goto (tgt := 4) hx hb dX5_missedBy_57 (by decide) ?_
            exact ih (x2_L4 + r10) (x3_L4 + 1) tt0 H locs ls h hP hS (lv_sub hl [2, 3, 1, 0] rfl) kE
  have hl : lv_has ls 4 [(0, .ref a_z), (1, .int p0)] := hl
  have h := hf
  unfold fX5_missedBy at h
  refine lv_iconst (v := 0) hx hb dX5_missedBy_0 (by decide) ?_
  refine lv_istore_n (lv' := [(2, .int 0), (0, .ref a_z), (1, .int p0)]) hx hb dX5_missedBy_1 rfl hl (by decide) rfl (fun ls hl => ?_)
  refine lv_iconst (v := 0) hx hb dX5_missedBy_2 (by decide) ?_
  refine lv_istore_n (lv' := [(3, .int 0), (2, .int 0), (0, .ref a_z), (1, .int p0)]) hx hb dX5_missedBy_3 rfl hl (by decide) rfl (fun ls hl => ?_)
  obtain ⟨t12, hk13, h⟩ := bd1_e h
  refine L4 p0 g 0 0 t12 H locs ls hk13 hP hS (lv_sub hl [2, 3, 1, 0] rfl) (fun H locs ls hP hS hl => ?_)
  refine lv_iload_n hx hb dX5_missedBy_60 rfl (lv_at hl 0 rfl) ?_
  exact hret 61 H locs ls t12 h rfl dX5_missedBy_61 hP hS
theorem eSX5_missed : yX5_missed.cls ≠ "java/lang/invoke/MethodHandle" ∧ yX5_missed.cls ≠ "java/lang/invoke/VarHandle" ∧ (parseMethodDescriptor yX5_missed.desc).map (fun d => d.parameters.length) = some 1 := by decide +kernel
theorem eVX5_missed : yX5_missed.cls = RX5 ∧ yX5_missed.cls ≠ "java/lang/invoke/MethodHandle" ∧ yX5_missed.cls ≠ "java/lang/invoke/VarHandle" ∧ (parseMethodDescriptor yX5_missed.desc).map (fun d => d.parameters.length) = some 1 := ⟨rfl, eSX5_missed⟩
abbrev rmX5_missed : Room := { frames := 4, cells := 0, slots := 0, locals := 88 }
def fX5_missed_L21_b (g : Nat) (z_s : Nat → Int32) (self : Int32 → Int32 → Option (Int32)) (x2_L21 : Int32) (x3_L21 : Int32) : Option (Int32) := if (z_s 0) ≤ x3_L21 then (some x2_L21) else (if x2_L21 < 0 then (self x3_L21 (x3_L21 + 1)) else (bd1 (fX5_missedBy g x3_L21 z_s) fun r17 => (bd1 (fX5_missedBy g x2_L21 z_s) fun r19 => (if r17 ≤ r19 then (self x2_L21 (x3_L21 + 1)) else (self x3_L21 (x3_L21 + 1))))))
def fX5_missed_L21 (g : Nat) (z_s : Nat → Int32) (n : Nat) : Int32 → Int32 → Option (Int32) := lp (fX5_missed_L21_b g z_s) (fun _ _ => none) n
def fX5_missed (g : Nat) (p0 : Int32) (z_s : Nat → Int32) (z_refused : Nat → Int32) : Option (Int32 × (Nat → Int32)) := bd1 (fX5_isIn g p0 0 1) fun r12 => (if r12 = 0 then (bd2 (fX5_noFar g (-2) z_refused) fun r29 z_refused_30 => (some (r29, z_refused_30))) else (bd1 (fX5_missed_L21 g z_s g (-9) 0) fun t22 => (if p0 = 0 then (some (t22, z_refused)) else (if 0 ≤ t22 then (bd1 (fX5_missedBy g t22 z_s) fun r25 => (some (r25, z_refused))) else (some (0, z_refused))))))
set_option maxHeartbeats 4000000 in
set_option maxRecDepth 100000 in
theorem kX5_missed (l : Launch) (D : va_G) (cI cJ : ClassId) (sz g : Nat) (a_z a_z_s a_z_m a_z_image a_z_was a_z_letters a_z_row a_z_refused a_z_numbers : Nat) (z_hasImage : Int32) (z_letterMany : Int32) (z_rowMany : Int32) (z_reading : Int32) (z_seed : Int32) (z_s : Nat → Int32) (z_refused : Nat → Int32) (p0 : Int32) (r : Int32) (n_z_refused : Nat → Int32) (hf : fX5_missed g p0 z_s z_refused = some (r, n_z_refused)) : Met l yX5_missed wsX5_missed rmX5_missed (va_Pc [.ref a_z, .int p0] (sPc D (tyL cI cJ) [(a_z, .inr (5, [.ref a_z_s, .ref a_z_m, .ref a_z_image, .ref a_z_was, .int z_hasImage, .ref a_z_letters, .ref a_z_row, .ref a_z_refused, .int z_letterMany, .int z_rowMany, .int z_reading, .ref a_z_numbers, .int z_seed])), (a_z_s, .inl (cI, 45, .inl z_s)), (a_z_refused, .inl (cI, 7, .inl z_refused))] sz)) (qI D (tyL cI cJ) [(a_z, .inr (5, [.ref a_z_s, .ref a_z_m, .ref a_z_image, .ref a_z_was, .int z_hasImage, .ref a_z_letters, .ref a_z_row, .ref a_z_refused, .int z_letterMany, .int z_rowMany, .int z_reading, .ref a_z_numbers, .int z_seed])), (a_z_s, .inl (cI, 45, .inl z_s)), (a_z_refused, .inl (cI, 7, .inl z_refused))] sz [(a_z, .inr (5, [.ref a_z_s, .ref a_z_m, .ref a_z_image, .ref a_z_was, .int z_hasImage, .ref a_z_letters, .ref a_z_row, .ref a_z_refused, .int z_letterMany, .int z_rowMany, .int z_reading, .ref a_z_numbers, .int z_seed])), (a_z_s, .inl (cI, 45, .inl z_s)), (a_z_refused, .inl (cI, 7, .inl n_z_refused))] r) 0 0 (va_A [(a_z, .inr (5, [.ref a_z_s, .ref a_z_m, .ref a_z_image, .ref a_z_was, .int z_hasImage, .ref a_z_letters, .ref a_z_row, .ref a_z_refused, .int z_letterMany, .int z_rowMany, .int z_reading, .ref a_z_numbers, .int z_seed])), (a_z_s, .inl (cI, 45, .inl z_s)), (a_z_refused, .inl (cI, 7, .inl z_refused))] sz) := by
  refine st_i (cc := cX5_missed) (maxL := 4) (by decide) rfl (Nat.le_of_ble_eq_true rfl) ?_
  intro p e s m args below meth c A Q F hret0 H locs hP hS ls hl
  have F : Cx p s m args c cX5_missed 4 wsX5_missed RX5 D (tyL cI cJ) A := F
  have hx := F.1.1
  have hb := F.1.2.1
  have hown := F.1.2.2.2.1
  have hts := F.1.2.2.2.2
  have iX5 : ∀ w ∈ wsX50, w ∈ wsX5_missed := fun w h => (List.mem_cons_of_mem _ (List.mem_append_right _ h))
  have hret : ∀ (pc : Nat) (H : Heap) (locs : List Loc) (ls : Array Slot) (r' : Int32) (m_z_refused : Nat → Int32), some (r', m_z_refused) = some (r, n_z_refused) → narrow .int (.int r') = .int r' → decode cX5_missed pc = .ok (.ireturn, 1) → WD D A [(a_z, .inr (5, [.ref a_z_s, .ref a_z_m, .ref a_z_image, .ref a_z_was, .int z_hasImage, .ref a_z_letters, .ref a_z_row, .ref a_z_refused, .int z_letterMany, .int z_rowMany, .int z_reading, .ref a_z_numbers, .int z_seed])), (a_z_s, .inl (cI, 45, .inl z_s)), (a_z_refused, .inl (cI, 7, .inl m_z_refused))] H → va_S A s.heap H locs → W p l e rmX5_missed s m args below meth c H locs 0 0 Q (F0 m pc ls [.int r']) := by
    intro pc H locs ls r' m_z_refused h hn hd hP hS
    cases h
    exact hret0 pc H locs ls hn hd hP hS
  have L21 : ∀ (x1_L21 : Int32) (z_refused_L21 : Nat → Int32) (n : Nat) (x2_L21 : Int32) (x3_L21 : Int32) (tt0 : Int32) (H : Heap) (locs : List Loc) (ls : Array Slot), fX5_missed_L21 g z_s n x2_L21 x3_L21 = some tt0 → WD D A [(a_z, .inr (5, [.ref a_z_s, .ref a_z_m, .ref a_z_image, .ref a_z_was, .int z_hasImage, .ref a_z_letters, .ref a_z_row, .ref a_z_refused, .int z_letterMany, .int z_rowMany, .int z_reading, .ref a_z_numbers, .int z_seed])), (a_z_s, .inl (cI, 45, .inl z_s)), (a_z_refused, .inl (cI, 7, .inl z_refused_L21))] H → va_S A s.heap H locs → lv_has ls 4 [(0, .ref a_z), (1, .int x1_L21), (2, .int x2_L21), (3, .int x3_L21)] → (∀ (H : Heap) (locs : List Loc) (ls : Array Slot), WD D A [(a_z, .inr (5, [.ref a_z_s, .ref a_z_m, .ref a_z_image, .ref a_z_was, .int z_hasImage, .ref a_z_letters, .ref a_z_row, .ref a_z_refused, .int z_letterMany, .int z_rowMany, .int z_reading, .ref a_z_numbers, .int z_seed])), (a_z_s, .inl (cI, 45, .inl z_s)), (a_z_refused, .inl (cI, 7, .inl z_refused_L21))] H → va_S A s.heap H locs → lv_has ls 4 [(0, .ref a_z), (1, .int x1_L21), (2, .int tt0)] → W p l e rmX5_missed s m args below meth c H locs 0 0 Q (F0 m 56 ls [])) → W p l e rmX5_missed s m args below meth c H locs 0 0 Q (F0 m 21 ls []) := by
    intro x1_L21 z_refused_L21 n
    induction n with
    | zero =>
      intro x2_L21 x3_L21 tt0 H locs ls h
      exact (no_some h).elim
    | succ n ih =>
      intro x2_L21 x3_L21 tt0 H locs ls h hP hS hl kE
      have h : fX5_missed_L21_b g z_s (fX5_missed_L21 g z_s n) x2_L21 x3_L21 = some tt0 := h
      unfold fX5_missed_L21_b at h
      refine lv_iload_n hx hb dX5_missed_21 rfl (lv_at hl 3 rfl) ?_
      refine lv_aload_n hx hb dX5_missed_22 rfl (lv_at hl 0 rfl) ?_
      refine gt_X5_9 F iX5 (List.mem_cons_of_mem _ (List.mem_append_left _ (List.mem_append_left _ (List.mem_of_getElem? (i := 0) rfl)))) hP 0 rfl dX5_missed_23 ?_
      refine lv_iconst (v := 0) hx hb dX5_missed_26 (by decide) ?_
      refine r_ia F hP 1 rfl (j := 0) rfl (by decide) dX5_missed_27 ?_
      refine lv_icmp_ge (tgt := 56) hx hb dX5_missed_28 (by decide) (fun hc15 => ?_) (fun hc15 => ?_)
      · have h := it_p hc15 h
        cases h
        exact kE H locs ls hP hS (lv_sub hl [0, 1, 2] rfl)
      · have h := it_n hc15 h
        refine lv_iload_n hx hb dX5_missed_31 rfl (lv_at hl 2 rfl) ?_
        refine lv_if_lt (tgt := 48) hx hb dX5_missed_32 (by decide) (fun hc16 => ?_) (fun hc16 => ?_)
        · have h := it_p hc16 h
          refine lv_iload_n hx hb dX5_missed_48 rfl (lv_at hl 3 rfl) ?_
          refine lv_istore_n (lv' := [(2, .int x3_L21), (0, .ref a_z), (1, .int x1_L21), (3, .int x3_L21)]) hx hb dX5_missed_49 rfl hl (by decide) rfl (fun ls hl => ?_)
          refine lv_iinc (v := x3_L21 + 1) (lv' := [(3, .int (x3_L21 + 1)), (2, .int x3_L21), (0, .ref a_z), (1, .int x1_L21)]) hx hb dX5_missed_50 hl (k := 3) rfl rfl (by decide) rfl (fun ls hl => ?_)
          refine lv_goto (tgt := 21) hx hb dX5_missed_53 (by decide) ?_
          exact ih x3_L21 (x3_L21 + 1) tt0 H locs ls h hP hS (lv_sub hl [2, 3, 1, 0] rfl) kE
        · have h := it_n hc16 h
          refine lv_aload_n hx hb dX5_missed_35 rfl (lv_at hl 0 rfl) ?_
          refine lv_iload_n hx hb dX5_missed_36 rfl (lv_at hl 3 rfl) ?_
          obtain ⟨r17, hk18, h⟩ := bd1_e h
          refine cV_i (rest := []) F (kX5_missedBy l D cI cJ H.size g a_z a_z_s a_z_m a_z_image a_z_was a_z_letters a_z_row a_z_refused a_z_numbers z_hasImage z_letterMany z_rowMany z_reading z_seed z_s x3_L21 r17 hk18) (cwV 1 hts gX5_missed_X5_missedBy rfl rfl rfl eVX5_missedBy ⟨Nat.le_of_ble_eq_true rfl, Nat.le_of_ble_eq_true rfl⟩) [0, 1] hP hS (by decide) rfl rfl 0 rfl rfl rfl hl.1 (Nat.le_of_ble_eq_true rfl) ⟨Nat.le_refl _, Nat.le_refl _⟩ rfl dX5_missed_37 (fun H locs hP hS => ?_)
          have hP : WD D A [(a_z, .inr (5, [.ref a_z_s, .ref a_z_m, .ref a_z_image, .ref a_z_was, .int z_hasImage, .ref a_z_letters, .ref a_z_row, .ref a_z_refused, .int z_letterMany, .int z_rowMany, .int z_reading, .ref a_z_numbers, .int z_seed])), (a_z_s, .inl (cI, 45, .inl z_s)), (a_z_refused, .inl (cI, 7, .inl z_refused_L21))] H := hP
          refine lv_aload_n hx hb dX5_missed_40 rfl (lv_at hl 0 rfl) ?_
          refine lv_iload_n hx hb dX5_missed_41 rfl (lv_at hl 2 rfl) ?_
          obtain ⟨r19, hk20, h⟩ := bd1_e h
          refine cV_i (rest := [.int r17]) F (kX5_missedBy l D cI cJ H.size g a_z a_z_s a_z_m a_z_image a_z_was a_z_letters a_z_row a_z_refused a_z_numbers z_hasImage z_letterMany z_rowMany z_reading z_seed z_s x2_L21 r19 hk20) (cwV 1 hts gX5_missed_X5_missedBy rfl rfl rfl eVX5_missedBy ⟨Nat.le_of_ble_eq_true rfl, Nat.le_of_ble_eq_true rfl⟩) [0, 1] hP hS (by decide) rfl rfl 0 rfl rfl rfl hl.1 (Nat.le_of_ble_eq_true rfl) ⟨Nat.le_refl _, Nat.le_refl _⟩ rfl dX5_missed_42 (fun H locs hP hS => ?_)
          have hP : WD D A [(a_z, .inr (5, [.ref a_z_s, .ref a_z_m, .ref a_z_image, .ref a_z_was, .int z_hasImage, .ref a_z_letters, .ref a_z_row, .ref a_z_refused, .int z_letterMany, .int z_rowMany, .int z_reading, .ref a_z_numbers, .int z_seed])), (a_z_s, .inl (cI, 45, .inl z_s)), (a_z_refused, .inl (cI, 7, .inl z_refused_L21))] H := hP
          refine lv_icmp_le (tgt := 50) hx hb dX5_missed_45 (by decide) (fun hc21 => ?_) (fun hc21 => ?_)
          · have h := it_p hc21 h
            refine lv_iinc (v := x3_L21 + 1) (lv' := [(3, .int (x3_L21 + 1)), (0, .ref a_z), (1, .int x1_L21), (2, .int x2_L21)]) hx hb dX5_missed_50 hl (k := 3) rfl rfl (by decide) rfl (fun ls hl => ?_)
            refine lv_goto (tgt := 21) hx hb dX5_missed_53 (by decide) ?_
            exact ih x2_L21 (x3_L21 + 1) tt0 H locs ls h hP hS (lv_sub hl [1, 2, 3, 0] rfl) kE
          · have h := it_n hc21 h
            refine lv_iload_n hx hb dX5_missed_48 rfl (lv_at hl 3 rfl) ?_
            refine lv_istore_n (lv' := [(2, .int x3_L21), (0, .ref a_z), (1, .int x1_L21), (3, .int x3_L21)]) hx hb dX5_missed_49 rfl hl (by decide) rfl (fun ls hl => ?_)
            refine lv_iinc (v := x3_L21 + 1) (lv' := [(3, .int (x3_L21 + 1)), (2, .int x3_L21), (0, .ref a_z), (1, .int x1_L21)]) hx hb dX5_missed_50 hl (k := 3) rfl rfl (by decide) rfl (fun ls hl => ?_)
            refine lv_goto (tgt := 21) hx hb dX5_missed_53 (by decide) ?_
            exact ih x3_L21 (x3_L21 + 1) tt0 H locs ls h hP hS (lv_sub hl [2, 3, 1, 0] rfl) kE
  have hl : lv_has ls 4 [(0, .ref a_z), (1, .int p0)] := hl
  have h := hf
  unfold fX5_missed at h
  refine lv_iload_n hx hb dX5_missed_0 rfl (lv_at hl 1 rfl) ?_
  refine lv_iconst (v := 0) hx hb dX5_missed_1 (by decide) ?_
  refine lv_iconst (v := 1) hx hb dX5_missed_2 (by decide) ?_
  obtain ⟨r12, hk13, h⟩ := bd1_e h
  refine cS_i (rest := []) F (kX5_isIn l D cI cJ H.size g p0 0 1 r12 hk13) (va_cwS 3 hts gX5_missed_X5_isIn rfl rfl rfl eSX5_isIn ⟨Nat.le_of_ble_eq_true rfl, Nat.le_of_ble_eq_true rfl⟩) [] hP hS (by decide) rfl rfl rfl hl.1 (Nat.le_of_ble_eq_true rfl) ⟨Nat.le_refl _, Nat.le_refl _⟩ rfl dX5_missed_3 (fun H locs hP hS => ?_)
  have hP : WD D A [(a_z, .inr (5, [.ref a_z_s, .ref a_z_m, .ref a_z_image, .ref a_z_was, .int z_hasImage, .ref a_z_letters, .ref a_z_row, .ref a_z_refused, .int z_letterMany, .int z_rowMany, .int z_reading, .ref a_z_numbers, .int z_seed])), (a_z_s, .inl (cI, 45, .inl z_s)), (a_z_refused, .inl (cI, 7, .inl z_refused))] H := hP
  refine lv_if_ne (tgt := 16) hx hb dX5_missed_6 (by decide) (fun hc14 => ?_) (fun hc14 => ?_)
  · have h := it_n hc14 h
    refine lv_bipush (v := (-9)) hx hb dX5_missed_16 (by decide) ?_
    refine lv_istore_n (lv' := [(2, .int (-9)), (0, .ref a_z), (1, .int p0)]) hx hb dX5_missed_18 rfl hl (by decide) rfl (fun ls hl => ?_)
    refine lv_iconst (v := 0) hx hb dX5_missed_19 (by decide) ?_
    refine lv_istore_n (lv' := [(3, .int 0), (2, .int (-9)), (0, .ref a_z), (1, .int p0)]) hx hb dX5_missed_20 rfl hl (by decide) rfl (fun ls hl => ?_)
    obtain ⟨t22, hk27, h⟩ := bd1_e h
    refine L21 p0 z_refused g (-9) 0 t22 H locs ls hk27 hP hS (lv_sub hl [2, 3, 1, 0] rfl) (fun H locs ls hP hS hl => ?_)
    refine lv_iload_n hx hb dX5_missed_56 rfl (lv_at hl 1 rfl) ?_
    refine lv_if_ne (tgt := 64) hx hb dX5_missed_57 (by decide) (fun hc23 => ?_) (fun hc23 => ?_)
    · have h := it_n hc23 h
      refine lv_iload_n hx hb dX5_missed_64 rfl (lv_at hl 2 rfl) ?_
      refine lv_if_ge (tgt := 72) hx hb dX5_missed_65 (by decide) (fun hc24 => ?_) (fun hc24 => ?_)
      · have h := it_p hc24 h
        refine lv_aload_n hx hb dX5_missed_72 rfl (lv_at hl 0 rfl) ?_
        refine lv_iload_n hx hb dX5_missed_73 rfl (lv_at hl 2 rfl) ?_
        obtain ⟨r25, hk26, h⟩ := bd1_e h
        refine cV_i (rest := []) F (kX5_missedBy l D cI cJ H.size g a_z a_z_s a_z_m a_z_image a_z_was a_z_letters a_z_row a_z_refused a_z_numbers z_hasImage z_letterMany z_rowMany z_reading z_seed z_s t22 r25 hk26) (cwV 1 hts gX5_missed_X5_missedBy rfl rfl rfl eVX5_missedBy ⟨Nat.le_of_ble_eq_true rfl, Nat.le_of_ble_eq_true rfl⟩) [0, 1] hP hS (by decide) rfl rfl 0 rfl rfl rfl hl.1 (Nat.le_of_ble_eq_true rfl) ⟨Nat.le_refl _, Nat.le_refl _⟩ rfl dX5_missed_74 (fun H locs hP hS => ?_)
        have hP : WD D A [(a_z, .inr (5, [.ref a_z_s, .ref a_z_m, .ref a_z_image, .ref a_z_was, .int z_hasImage, .ref a_z_letters, .ref a_z_row, .ref a_z_refused, .int z_letterMany, .int z_rowMany, .int z_reading, .ref a_z_numbers, .int z_seed])), (a_z_s, .inl (cI, 45, .inl z_s)), (a_z_refused, .inl (cI, 7, .inl z_refused))] H := hP
        exact hret 77 H locs ls r25 z_refused h rfl dX5_missed_77 hP hS
      · have h := it_n hc24 h
        refine lv_iconst (v := 0) hx hb dX5_missed_68 (by decide) ?_
        refine lv_goto (tgt := 77) hx hb dX5_missed_69 (by decide) ?_
        exact hret 77 H locs ls 0 z_refused h rfl dX5_missed_77 hP hS
    · have h := it_p hc23 h
      refine lv_iload_n hx hb dX5_missed_60 rfl (lv_at hl 2 rfl) ?_
      refine lv_goto (tgt := 77) hx hb dX5_missed_61 (by decide) ?_
      exact hret 77 H locs ls t22 z_refused h rfl dX5_missed_77 hP hS
  · have h := it_p hc14 h
    refine lv_aload_n hx hb dX5_missed_9 rfl (lv_at hl 0 rfl) ?_
    refine lv_bipush (v := (-2)) hx hb dX5_missed_10 (by decide) ?_
    obtain ⟨r29, z_refused_30, hk31, h⟩ := bd2_e h
    refine cV_i (rest := []) F (kX5_noFar l D cI cJ H.size g a_z a_z_s a_z_m a_z_image a_z_was a_z_letters a_z_row a_z_refused a_z_numbers z_hasImage z_letterMany z_rowMany z_reading z_seed z_refused (-2) r29 z_refused_30 hk31) (cwV 1 hts gX5_missed_X5_noFar rfl rfl rfl eVX5_noFar ⟨Nat.le_of_ble_eq_true rfl, Nat.le_of_ble_eq_true rfl⟩) [0, 2] hP hS (by decide) rfl rfl 0 rfl rfl rfl hl.1 (Nat.le_of_ble_eq_true rfl) ⟨Nat.le_refl _, Nat.le_refl _⟩ rfl dX5_missed_12 (fun H locs hP hS => ?_)
    have hP : WD D A [(a_z, .inr (5, [.ref a_z_s, .ref a_z_m, .ref a_z_image, .ref a_z_was, .int z_hasImage, .ref a_z_letters, .ref a_z_row, .ref a_z_refused, .int z_letterMany, .int z_rowMany, .int z_reading, .ref a_z_numbers, .int z_seed])), (a_z_s, .inl (cI, 45, .inl z_s)), (a_z_refused, .inl (cI, 7, .inl z_refused_30))] H := hP
    exact hret 15 H locs ls r29 z_refused_30 h rfl dX5_missed_15 hP hS
theorem eSX5_opposed : yX5_opposed.cls ≠ "java/lang/invoke/MethodHandle" ∧ yX5_opposed.cls ≠ "java/lang/invoke/VarHandle" ∧ (parseMethodDescriptor yX5_opposed.desc).map (fun d => d.parameters.length) = some 0 := by decide +kernel
theorem eVX5_opposed : yX5_opposed.cls = RX5 ∧ yX5_opposed.cls ≠ "java/lang/invoke/MethodHandle" ∧ yX5_opposed.cls ≠ "java/lang/invoke/VarHandle" ∧ (parseMethodDescriptor yX5_opposed.desc).map (fun d => d.parameters.length) = some 0 := ⟨rfl, eSX5_opposed⟩
abbrev rmX5_opposed : Room := { frames := 3, cells := 0, slots := 0, locals := 63 }
def fX5_opposed_L18_b (g : Nat) (x2_L18 : Int32) (z_s : Nat → Int32) (self : Int32 → Int32 → Option (Int32)) (x1_L18 : Int32) (x3_L18 : Int32) : Option (Int32) := if (z_s 1) ≤ x3_L18 then (some x1_L18) else (bd1 (fX5_isAboard g x2_L18 z_s) fun r4 => (if r4 = 0 then (self (x1_L18 + 0) (x3_L18 + 1)) else (bd1 (fX5_isAboard g x3_L18 z_s) fun r7 => (if r7 = 0 then (self (x1_L18 + 0) (x3_L18 + 1)) else (bd1 (fX5_rowsOff g x2_L18 z_s) fun r10 => (bd1 (fX5_rowsOff g x3_L18 z_s) fun r12 => (if (r10 * r12) < 0 then (self (x1_L18 + 1) (x3_L18 + 1)) else (bd1 (fX5_columnsOff g x2_L18 z_s) fun r15 => (bd1 (fX5_columnsOff g x3_L18 z_s) fun r17 => (if 0 ≤ (r15 * r17) then (self (x1_L18 + 0) (x3_L18 + 1)) else (self (x1_L18 + 1) (x3_L18 + 1))))))))))))
def fX5_opposed_L18 (g : Nat) (x2_L18 : Int32) (z_s : Nat → Int32) (n : Nat) : Int32 → Int32 → Option (Int32) := lp (fX5_opposed_L18_b g x2_L18 z_s) (fun _ _ => none) n
def fX5_opposed_L4_b (g : Nat) (z_s : Nat → Int32) (self : Int32 → Int32 → Option (Int32)) (x1_L4 : Int32) (x2_L4 : Int32) : Option (Int32) := if (z_s 1) ≤ x2_L4 then (some x1_L4) else (bd1 (fX5_opposed_L18 g x2_L4 z_s g x1_L4 (x2_L4 + 1)) fun t20 => (self t20 (x2_L4 + 1)))
def fX5_opposed_L4 (g : Nat) (z_s : Nat → Int32) (n : Nat) : Int32 → Int32 → Option (Int32) := lp (fX5_opposed_L4_b g z_s) (fun _ _ => none) n
def fX5_opposed (g : Nat) (z_s : Nat → Int32) : Option (Int32) := bd1 (fX5_opposed_L4 g z_s g 0 0) fun t23 => (some t23)
set_option maxHeartbeats 4000000 in
set_option maxRecDepth 100000 in
theorem kX5_opposed (l : Launch) (D : va_G) (cI cJ : ClassId) (sz g : Nat) (a_z a_z_s a_z_m a_z_image a_z_was a_z_letters a_z_row a_z_refused a_z_numbers : Nat) (z_hasImage : Int32) (z_letterMany : Int32) (z_rowMany : Int32) (z_reading : Int32) (z_seed : Int32) (z_s : Nat → Int32) (r : Int32) (hf : fX5_opposed g z_s = some r) : Met l yX5_opposed wsX5_opposed rmX5_opposed (va_Pc [.ref a_z] (sPc D (tyL cI cJ) [(a_z, .inr (5, [.ref a_z_s, .ref a_z_m, .ref a_z_image, .ref a_z_was, .int z_hasImage, .ref a_z_letters, .ref a_z_row, .ref a_z_refused, .int z_letterMany, .int z_rowMany, .int z_reading, .ref a_z_numbers, .int z_seed])), (a_z_s, .inl (cI, 45, .inl z_s))] sz)) (qI D (tyL cI cJ) [(a_z, .inr (5, [.ref a_z_s, .ref a_z_m, .ref a_z_image, .ref a_z_was, .int z_hasImage, .ref a_z_letters, .ref a_z_row, .ref a_z_refused, .int z_letterMany, .int z_rowMany, .int z_reading, .ref a_z_numbers, .int z_seed])), (a_z_s, .inl (cI, 45, .inl z_s))] sz [(a_z, .inr (5, [.ref a_z_s, .ref a_z_m, .ref a_z_image, .ref a_z_was, .int z_hasImage, .ref a_z_letters, .ref a_z_row, .ref a_z_refused, .int z_letterMany, .int z_rowMany, .int z_reading, .ref a_z_numbers, .int z_seed])), (a_z_s, .inl (cI, 45, .inl z_s))] r) 0 0 (va_A [(a_z, .inr (5, [.ref a_z_s, .ref a_z_m, .ref a_z_image, .ref a_z_was, .int z_hasImage, .ref a_z_letters, .ref a_z_row, .ref a_z_refused, .int z_letterMany, .int z_rowMany, .int z_reading, .ref a_z_numbers, .int z_seed])), (a_z_s, .inl (cI, 45, .inl z_s))] sz) := by
  refine st_i (cc := cX5_opposed) (maxL := 4) (by decide) rfl (Nat.le_of_ble_eq_true rfl) ?_
  intro p e s m args below meth c A Q F hret0 H locs hP hS ls hl
  have F : Cx p s m args c cX5_opposed 4 wsX5_opposed RX5 D (tyL cI cJ) A := F
  have hx := F.1.1
  have hb := F.1.2.1
  have hown := F.1.2.2.2.1
  have hts := F.1.2.2.2.2
  have iX5 : ∀ w ∈ wsX50, w ∈ wsX5_opposed := fun w h => (List.mem_cons_of_mem _ (List.mem_append_right _ h))
  have hret : ∀ (pc : Nat) (H : Heap) (locs : List Loc) (ls : Array Slot) (r' : Int32), some r' = some r → narrow .int (.int r') = .int r' → decode cX5_opposed pc = .ok (.ireturn, 1) → WD D A [(a_z, .inr (5, [.ref a_z_s, .ref a_z_m, .ref a_z_image, .ref a_z_was, .int z_hasImage, .ref a_z_letters, .ref a_z_row, .ref a_z_refused, .int z_letterMany, .int z_rowMany, .int z_reading, .ref a_z_numbers, .int z_seed])), (a_z_s, .inl (cI, 45, .inl z_s))] H → va_S A s.heap H locs → W p l e rmX5_opposed s m args below meth c H locs 0 0 Q (F0 m pc ls [.int r']) := by
    intro pc H locs ls r' h hn hd hP hS
    cases h
    exact hret0 pc H locs ls hn hd hP hS
  have L18 : ∀ (x2_L18 : Int32) (n : Nat) (x1_L18 : Int32) (x3_L18 : Int32) (tt0 : Int32) (H : Heap) (locs : List Loc) (ls : Array Slot), fX5_opposed_L18 g x2_L18 z_s n x1_L18 x3_L18 = some tt0 → WD D A [(a_z, .inr (5, [.ref a_z_s, .ref a_z_m, .ref a_z_image, .ref a_z_was, .int z_hasImage, .ref a_z_letters, .ref a_z_row, .ref a_z_refused, .int z_letterMany, .int z_rowMany, .int z_reading, .ref a_z_numbers, .int z_seed])), (a_z_s, .inl (cI, 45, .inl z_s))] H → va_S A s.heap H locs → lv_has ls 4 [(0, .ref a_z), (1, .int x1_L18), (2, .int x2_L18), (3, .int x3_L18)] → (∀ (H : Heap) (locs : List Loc) (ls : Array Slot), WD D A [(a_z, .inr (5, [.ref a_z_s, .ref a_z_m, .ref a_z_image, .ref a_z_was, .int z_hasImage, .ref a_z_letters, .ref a_z_row, .ref a_z_refused, .int z_letterMany, .int z_rowMany, .int z_reading, .ref a_z_numbers, .int z_seed])), (a_z_s, .inl (cI, 45, .inl z_s))] H → va_S A s.heap H locs → lv_has ls 4 [(0, .ref a_z), (1, .int tt0), (2, .int x2_L18)] → W p l e rmX5_opposed s m args below meth c H locs 0 0 Q (F0 m 104 ls [])) → W p l e rmX5_opposed s m args below meth c H locs 0 0 Q (F0 m 18 ls []) := by
    intro x2_L18 n
    induction n with
    | zero =>
      intro x1_L18 x3_L18 tt0 H locs ls h
      exact (no_some h).elim
    | succ n ih =>
      intro x1_L18 x3_L18 tt0 H locs ls h hP hS hl kE
      have h : fX5_opposed_L18_b g x2_L18 z_s (fX5_opposed_L18 g x2_L18 z_s n) x1_L18 x3_L18 = some tt0 := h
      unfold fX5_opposed_L18_b at h
      refine lv_iload_n hx hb dX5_opposed_18 rfl (lv_at hl 3 rfl) ?_
      refine lv_aload_n hx hb dX5_opposed_19 rfl (lv_at hl 0 rfl) ?_
      refine gt_X5_9 F iX5 (List.mem_cons_of_mem _ (List.mem_append_left _ (List.mem_of_getElem? (i := 0) rfl))) hP 0 rfl dX5_opposed_20 ?_
      refine lv_iconst (v := 1) hx hb dX5_opposed_23 (by decide) ?_
      refine r_ia F hP 1 rfl (j := 1) rfl (by decide) dX5_opposed_24 ?_
      refine lv_icmp_ge (tgt := 104) hx hb dX5_opposed_25 (by decide) (fun hc3 => ?_) (fun hc3 => ?_)
      · have h := it_p hc3 h
        cases h
        exact kE H locs ls hP hS (lv_sub hl [0, 1, 2] rfl)
      · have h := it_n hc3 h
        refine lv_iload_n hx hb dX5_opposed_28 rfl (lv_at hl 1 rfl) ?_
        refine lv_aload_n hx hb dX5_opposed_29 rfl (lv_at hl 0 rfl) ?_
        refine gt_X5_9 F iX5 (List.mem_cons_of_mem _ (List.mem_append_left _ (List.mem_of_getElem? (i := 0) rfl))) hP 0 rfl dX5_opposed_30 ?_
        refine lv_iload_n hx hb dX5_opposed_33 rfl (lv_at hl 2 rfl) ?_
        obtain ⟨r4, hk5, h⟩ := bd1_e h
        refine cS_i (rest := [.int x1_L18]) F (kX5_isAboard l D cI cJ H.size g a_z_s z_s x2_L18 r4 hk5) (va_cwS 2 hts gX5_opposed_X5_isAboard rfl rfl rfl eSX5_isAboard ⟨Nat.le_of_ble_eq_true rfl, Nat.le_of_ble_eq_true rfl⟩) [1] hP hS (by decide) rfl rfl rfl hl.1 (Nat.le_of_ble_eq_true rfl) ⟨Nat.le_refl _, Nat.le_refl _⟩ rfl dX5_opposed_34 (fun H locs hP hS => ?_)
        have hP : WD D A [(a_z, .inr (5, [.ref a_z_s, .ref a_z_m, .ref a_z_image, .ref a_z_was, .int z_hasImage, .ref a_z_letters, .ref a_z_row, .ref a_z_refused, .int z_letterMany, .int z_rowMany, .int z_reading, .ref a_z_numbers, .int z_seed])), (a_z_s, .inl (cI, 45, .inl z_s))] H := hP
        refine lv_if_eq (tgt := 95) hx hb dX5_opposed_37 (by decide) (fun hc6 => ?_) (fun hc6 => ?_)
        · have h := it_p hc6 h
          refine lv_iconst (v := 0) hx hb dX5_opposed_95 (by decide) ?_
          refine lv_iadd hx hb dX5_opposed_96 ?_
          refine lv_istore_n (lv' := [(1, .int (x1_L18 + 0)), (0, .ref a_z), (2, .int x2_L18), (3, .int x3_L18)]) hx hb dX5_opposed_97 rfl hl (by decide) rfl (fun ls hl => ?_)
          refine lv_iinc (v := x3_L18 + 1) (lv' := [(3, .int (x3_L18 + 1)), (1, .int (x1_L18 + 0)), (0, .ref a_z), (2, .int x2_L18)]) hx hb dX5_opposed_98 hl (k := 3) rfl rfl (by decide) rfl (fun ls hl => ?_)
          refine lv_goto (tgt := 18) hx hb dX5_opposed_101 (by decide) ?_
          exact ih (x1_L18 + 0) (x3_L18 + 1) tt0 H locs ls h hP hS (lv_sub hl [2, 1, 3, 0] rfl) kE
        · have h := it_n hc6 h
          refine lv_aload_n hx hb dX5_opposed_40 rfl (lv_at hl 0 rfl) ?_
          refine gt_X5_9 F iX5 (List.mem_cons_of_mem _ (List.mem_append_left _ (List.mem_of_getElem? (i := 0) rfl))) hP 0 rfl dX5_opposed_41 ?_
          refine lv_iload_n hx hb dX5_opposed_44 rfl (lv_at hl 3 rfl) ?_
          obtain ⟨r7, hk8, h⟩ := bd1_e h
          refine cS_i (rest := [.int x1_L18]) F (kX5_isAboard l D cI cJ H.size g a_z_s z_s x3_L18 r7 hk8) (va_cwS 2 hts gX5_opposed_X5_isAboard rfl rfl rfl eSX5_isAboard ⟨Nat.le_of_ble_eq_true rfl, Nat.le_of_ble_eq_true rfl⟩) [1] hP hS (by decide) rfl rfl rfl hl.1 (Nat.le_of_ble_eq_true rfl) ⟨Nat.le_refl _, Nat.le_refl _⟩ rfl dX5_opposed_45 (fun H locs hP hS => ?_)
          have hP : WD D A [(a_z, .inr (5, [.ref a_z_s, .ref a_z_m, .ref a_z_image, .ref a_z_was, .int z_hasImage, .ref a_z_letters, .ref a_z_row, .ref a_z_refused, .int z_letterMany, .int z_rowMany, .int z_reading, .ref a_z_numbers, .int z_seed])), (a_z_s, .inl (cI, 45, .inl z_s))] H := hP
          refine lv_if_eq (tgt := 95) hx hb dX5_opposed_48 (by decide) (fun hc9 => ?_) (fun hc9 => ?_)
          · have h := it_p hc9 h
            refine lv_iconst (v := 0) hx hb dX5_opposed_95 (by decide) ?_
            refine lv_iadd hx hb dX5_opposed_96 ?_
            refine lv_istore_n (lv' := [(1, .int (x1_L18 + 0)), (0, .ref a_z), (2, .int x2_L18), (3, .int x3_L18)]) hx hb dX5_opposed_97 rfl hl (by decide) rfl (fun ls hl => ?_)
            refine lv_iinc (v := x3_L18 + 1) (lv' := [(3, .int (x3_L18 + 1)), (1, .int (x1_L18 + 0)), (0, .ref a_z), (2, .int x2_L18)]) hx hb dX5_opposed_98 hl (k := 3) rfl rfl (by decide) rfl (fun ls hl => ?_)
            refine lv_goto (tgt := 18) hx hb dX5_opposed_101 (by decide) ?_
            exact ih (x1_L18 + 0) (x3_L18 + 1) tt0 H locs ls h hP hS (lv_sub hl [2, 1, 3, 0] rfl) kE
          · have h := it_n hc9 h
            refine lv_aload_n hx hb dX5_opposed_51 rfl (lv_at hl 0 rfl) ?_
            refine gt_X5_9 F iX5 (List.mem_cons_of_mem _ (List.mem_append_left _ (List.mem_of_getElem? (i := 0) rfl))) hP 0 rfl dX5_opposed_52 ?_
            refine lv_iload_n hx hb dX5_opposed_55 rfl (lv_at hl 2 rfl) ?_
            obtain ⟨r10, hk11, h⟩ := bd1_e h
            refine cS_i (rest := [.int x1_L18]) F (kX5_rowsOff l D cI cJ H.size g a_z_s z_s x2_L18 r10 hk11) (va_cwS 2 hts gX5_opposed_X5_rowsOff rfl rfl rfl eSX5_rowsOff ⟨Nat.le_of_ble_eq_true rfl, Nat.le_of_ble_eq_true rfl⟩) [1] hP hS (by decide) rfl rfl rfl hl.1 (Nat.le_of_ble_eq_true rfl) ⟨Nat.le_refl _, Nat.le_refl _⟩ rfl dX5_opposed_56 (fun H locs hP hS => ?_)
            have hP : WD D A [(a_z, .inr (5, [.ref a_z_s, .ref a_z_m, .ref a_z_image, .ref a_z_was, .int z_hasImage, .ref a_z_letters, .ref a_z_row, .ref a_z_refused, .int z_letterMany, .int z_rowMany, .int z_reading, .ref a_z_numbers, .int z_seed])), (a_z_s, .inl (cI, 45, .inl z_s))] H := hP
            refine lv_aload_n hx hb dX5_opposed_59 rfl (lv_at hl 0 rfl) ?_
            refine gt_X5_9 F iX5 (List.mem_cons_of_mem _ (List.mem_append_left _ (List.mem_of_getElem? (i := 0) rfl))) hP 0 rfl dX5_opposed_60 ?_
            refine lv_iload_n hx hb dX5_opposed_63 rfl (lv_at hl 3 rfl) ?_
            obtain ⟨r12, hk13, h⟩ := bd1_e h
            refine cS_i (rest := [.int r10, .int x1_L18]) F (kX5_rowsOff l D cI cJ H.size g a_z_s z_s x3_L18 r12 hk13) (va_cwS 2 hts gX5_opposed_X5_rowsOff rfl rfl rfl eSX5_rowsOff ⟨Nat.le_of_ble_eq_true rfl, Nat.le_of_ble_eq_true rfl⟩) [1] hP hS (by decide) rfl rfl rfl hl.1 (Nat.le_of_ble_eq_true rfl) ⟨Nat.le_refl _, Nat.le_refl _⟩ rfl dX5_opposed_64 (fun H locs hP hS => ?_)
            have hP : WD D A [(a_z, .inr (5, [.ref a_z_s, .ref a_z_m, .ref a_z_image, .ref a_z_was, .int z_hasImage, .ref a_z_letters, .ref a_z_row, .ref a_z_refused, .int z_letterMany, .int z_rowMany, .int z_reading, .ref a_z_numbers, .int z_seed])), (a_z_s, .inl (cI, 45, .inl z_s))] H := hP
            refine lv_imul hx hb dX5_opposed_67 ?_
            refine lv_if_lt (tgt := 91) hx hb dX5_opposed_68 (by decide) (fun hc14 => ?_) (fun hc14 => ?_)
            · have h := it_p hc14 h
              refine lv_iconst (v := 1) hx hb dX5_opposed_91 (by decide) ?_
              refine lv_goto (tgt := 96) hx hb dX5_opposed_92 (by decide) ?_
              refine lv_iadd hx hb dX5_opposed_96 ?_
              refine lv_istore_n (lv' := [(1, .int (x1_L18 + 1)), (0, .ref a_z), (2, .int x2_L18), (3, .int x3_L18)]) hx hb dX5_opposed_97 rfl hl (by decide) rfl (fun ls hl => ?_)
              refine lv_iinc (v := x3_L18 + 1) (lv' := [(3, .int (x3_L18 + 1)), (1, .int (x1_L18 + 1)), (0, .ref a_z), (2, .int x2_L18)]) hx hb dX5_opposed_98 hl (k := 3) rfl rfl (by decide) rfl (fun ls hl => ?_)
              refine lv_goto (tgt := 18) hx hb dX5_opposed_101 (by decide) ?_
              exact ih (x1_L18 + 1) (x3_L18 + 1) tt0 H locs ls h hP hS (lv_sub hl [2, 1, 3, 0] rfl) kE
            · have h := it_n hc14 h
              refine lv_aload_n hx hb dX5_opposed_71 rfl (lv_at hl 0 rfl) ?_
              refine gt_X5_9 F iX5 (List.mem_cons_of_mem _ (List.mem_append_left _ (List.mem_of_getElem? (i := 0) rfl))) hP 0 rfl dX5_opposed_72 ?_
              refine lv_iload_n hx hb dX5_opposed_75 rfl (lv_at hl 2 rfl) ?_
              obtain ⟨r15, hk16, h⟩ := bd1_e h
              refine cS_i (rest := [.int x1_L18]) F (kX5_columnsOff l D cI cJ H.size g a_z_s z_s x2_L18 r15 hk16) (va_cwS 2 hts gX5_opposed_X5_columnsOff rfl rfl rfl eSX5_columnsOff ⟨Nat.le_of_ble_eq_true rfl, Nat.le_of_ble_eq_true rfl⟩) [1] hP hS (by decide) rfl rfl rfl hl.1 (Nat.le_of_ble_eq_true rfl) ⟨Nat.le_refl _, Nat.le_refl _⟩ rfl dX5_opposed_76 (fun H locs hP hS => ?_)
              have hP : WD D A [(a_z, .inr (5, [.ref a_z_s, .ref a_z_m, .ref a_z_image, .ref a_z_was, .int z_hasImage, .ref a_z_letters, .ref a_z_row, .ref a_z_refused, .int z_letterMany, .int z_rowMany, .int z_reading, .ref a_z_numbers, .int z_seed])), (a_z_s, .inl (cI, 45, .inl z_s))] H := hP
              refine lv_aload_n hx hb dX5_opposed_79 rfl (lv_at hl 0 rfl) ?_
              refine gt_X5_9 F iX5 (List.mem_cons_of_mem _ (List.mem_append_left _ (List.mem_of_getElem? (i := 0) rfl))) hP 0 rfl dX5_opposed_80 ?_
              refine lv_iload_n hx hb dX5_opposed_83 rfl (lv_at hl 3 rfl) ?_
              obtain ⟨r17, hk18, h⟩ := bd1_e h
              refine cS_i (rest := [.int r15, .int x1_L18]) F (kX5_columnsOff l D cI cJ H.size g a_z_s z_s x3_L18 r17 hk18) (va_cwS 2 hts gX5_opposed_X5_columnsOff rfl rfl rfl eSX5_columnsOff ⟨Nat.le_of_ble_eq_true rfl, Nat.le_of_ble_eq_true rfl⟩) [1] hP hS (by decide) rfl rfl rfl hl.1 (Nat.le_of_ble_eq_true rfl) ⟨Nat.le_refl _, Nat.le_refl _⟩ rfl dX5_opposed_84 (fun H locs hP hS => ?_)
              have hP : WD D A [(a_z, .inr (5, [.ref a_z_s, .ref a_z_m, .ref a_z_image, .ref a_z_was, .int z_hasImage, .ref a_z_letters, .ref a_z_row, .ref a_z_refused, .int z_letterMany, .int z_rowMany, .int z_reading, .ref a_z_numbers, .int z_seed])), (a_z_s, .inl (cI, 45, .inl z_s))] H := hP
              refine lv_imul hx hb dX5_opposed_87 ?_
              refine lv_if_ge (tgt := 95) hx hb dX5_opposed_88 (by decide) (fun hc19 => ?_) (fun hc19 => ?_)
              · have h := it_p hc19 h
                refine lv_iconst (v := 0) hx hb dX5_opposed_95 (by decide) ?_
                refine lv_iadd hx hb dX5_opposed_96 ?_
                refine lv_istore_n (lv' := [(1, .int (x1_L18 + 0)), (0, .ref a_z), (2, .int x2_L18), (3, .int x3_L18)]) hx hb dX5_opposed_97 rfl hl (by decide) rfl (fun ls hl => ?_)
                refine lv_iinc (v := x3_L18 + 1) (lv' := [(3, .int (x3_L18 + 1)), (1, .int (x1_L18 + 0)), (0, .ref a_z), (2, .int x2_L18)]) hx hb dX5_opposed_98 hl (k := 3) rfl rfl (by decide) rfl (fun ls hl => ?_)
                refine lv_goto (tgt := 18) hx hb dX5_opposed_101 (by decide) ?_
                exact ih (x1_L18 + 0) (x3_L18 + 1) tt0 H locs ls h hP hS (lv_sub hl [2, 1, 3, 0] rfl) kE
              · have h := it_n hc19 h
                refine lv_iconst (v := 1) hx hb dX5_opposed_91 (by decide) ?_
                refine lv_goto (tgt := 96) hx hb dX5_opposed_92 (by decide) ?_
                refine lv_iadd hx hb dX5_opposed_96 ?_
                refine lv_istore_n (lv' := [(1, .int (x1_L18 + 1)), (0, .ref a_z), (2, .int x2_L18), (3, .int x3_L18)]) hx hb dX5_opposed_97 rfl hl (by decide) rfl (fun ls hl => ?_)
                refine lv_iinc (v := x3_L18 + 1) (lv' := [(3, .int (x3_L18 + 1)), (1, .int (x1_L18 + 1)), (0, .ref a_z), (2, .int x2_L18)]) hx hb dX5_opposed_98 hl (k := 3) rfl rfl (by decide) rfl (fun ls hl => ?_)
                refine lv_goto (tgt := 18) hx hb dX5_opposed_101 (by decide) ?_
                exact ih (x1_L18 + 1) (x3_L18 + 1) tt0 H locs ls h hP hS (lv_sub hl [2, 1, 3, 0] rfl) kE
  have L4 : ∀ (n : Nat) (x1_L4 : Int32) (x2_L4 : Int32) (tt0 : Int32) (H : Heap) (locs : List Loc) (ls : Array Slot), fX5_opposed_L4 g z_s n x1_L4 x2_L4 = some tt0 → WD D A [(a_z, .inr (5, [.ref a_z_s, .ref a_z_m, .ref a_z_image, .ref a_z_was, .int z_hasImage, .ref a_z_letters, .ref a_z_row, .ref a_z_refused, .int z_letterMany, .int z_rowMany, .int z_reading, .ref a_z_numbers, .int z_seed])), (a_z_s, .inl (cI, 45, .inl z_s))] H → va_S A s.heap H locs → lv_has ls 4 [(0, .ref a_z), (1, .int x1_L4), (2, .int x2_L4)] → (∀ (H : Heap) (locs : List Loc) (ls : Array Slot), WD D A [(a_z, .inr (5, [.ref a_z_s, .ref a_z_m, .ref a_z_image, .ref a_z_was, .int z_hasImage, .ref a_z_letters, .ref a_z_row, .ref a_z_refused, .int z_letterMany, .int z_rowMany, .int z_reading, .ref a_z_numbers, .int z_seed])), (a_z_s, .inl (cI, 45, .inl z_s))] H → va_S A s.heap H locs → lv_has ls 4 [(1, .int tt0)] → W p l e rmX5_opposed s m args below meth c H locs 0 0 Q (F0 m 110 ls [])) → W p l e rmX5_opposed s m args below meth c H locs 0 0 Q (F0 m 4 ls []) := by
    intro n
    induction n with
    | zero =>
      intro x1_L4 x2_L4 tt0 H locs ls h
      exact (no_some h).elim
    | succ n ih =>
      intro x1_L4 x2_L4 tt0 H locs ls h hP hS hl kE
      have h : fX5_opposed_L4_b g z_s (fX5_opposed_L4 g z_s n) x1_L4 x2_L4 = some tt0 := h
      unfold fX5_opposed_L4_b at h
      refine lv_iload_n hx hb dX5_opposed_4 rfl (lv_at hl 2 rfl) ?_
      refine lv_aload_n hx hb dX5_opposed_5 rfl (lv_at hl 0 rfl) ?_
      refine gt_X5_9 F iX5 (List.mem_cons_of_mem _ (List.mem_append_left _ (List.mem_of_getElem? (i := 0) rfl))) hP 0 rfl dX5_opposed_6 ?_
      refine lv_iconst (v := 1) hx hb dX5_opposed_9 (by decide) ?_
      refine r_ia F hP 1 rfl (j := 1) rfl (by decide) dX5_opposed_10 ?_
      refine lv_icmp_ge (tgt := 110) hx hb dX5_opposed_11 (by decide) (fun hc2 => ?_) (fun hc2 => ?_)
      · have h := it_p hc2 h
        cases h
        exact kE H locs ls hP hS (lv_sub hl [1] rfl)
      · have h := it_n hc2 h
        refine lv_iload_n hx hb dX5_opposed_14 rfl (lv_at hl 2 rfl) ?_
        refine lv_iconst (v := 1) hx hb dX5_opposed_15 (by decide) ?_
        refine lv_iadd hx hb dX5_opposed_16 ?_
        refine lv_istore_n (lv' := [(3, .int (x2_L4 + 1)), (0, .ref a_z), (1, .int x1_L4), (2, .int x2_L4)]) hx hb dX5_opposed_17 rfl hl (by decide) rfl (fun ls hl => ?_)
        obtain ⟨t20, hk21, h⟩ := bd1_e h
        refine L18 x2_L4 g x1_L4 (x2_L4 + 1) t20 H locs ls hk21 hP hS (lv_sub hl [1, 2, 3, 0] rfl) (fun H locs ls hP hS hl => ?_)
        refine lv_iinc (v := x2_L4 + 1) (lv' := [(2, .int (x2_L4 + 1)), (0, .ref a_z), (1, .int t20)]) hx hb dX5_opposed_104 hl (k := 2) rfl rfl (by decide) rfl (fun ls hl => ?_)
        refine lv_goto (tgt := 4) hx hb dX5_opposed_107 (by decide) ?_
        exact ih t20 (x2_L4 + 1) tt0 H locs ls h hP hS (lv_sub hl [1, 2, 0] rfl) kE
  have hl : lv_has ls 4 [(0, .ref a_z)] := hl
  have h := hf
  unfold fX5_opposed at h
  refine lv_iconst (v := 0) hx hb dX5_opposed_0 (by decide) ?_
  refine lv_istore_n (lv' := [(1, .int 0), (0, .ref a_z)]) hx hb dX5_opposed_1 rfl hl (by decide) rfl (fun ls hl => ?_)
  refine lv_iconst (v := 0) hx hb dX5_opposed_2 (by decide) ?_
  refine lv_istore_n (lv' := [(2, .int 0), (1, .int 0), (0, .ref a_z)]) hx hb dX5_opposed_3 rfl hl (by decide) rfl (fun ls hl => ?_)
  obtain ⟨t23, hk24, h⟩ := bd1_e h
  refine L4 g 0 0 t23 H locs ls hk24 hP hS (lv_sub hl [2, 1, 0] rfl) (fun H locs ls hP hS hl => ?_)
  refine lv_iload_n hx hb dX5_opposed_110 rfl (lv_at hl 0 rfl) ?_
  exact hret 111 H locs ls t23 h rfl dX5_opposed_111 hP hS
theorem eSX5_sign : yX5_sign.cls ≠ "java/lang/invoke/MethodHandle" ∧ yX5_sign.cls ≠ "java/lang/invoke/VarHandle" ∧ (parseMethodDescriptor yX5_sign.desc).map (fun d => d.parameters.length) = some 2 := by decide +kernel
theorem eVX5_sign : yX5_sign.cls = RX5 ∧ yX5_sign.cls ≠ "java/lang/invoke/MethodHandle" ∧ yX5_sign.cls ≠ "java/lang/invoke/VarHandle" ∧ (parseMethodDescriptor yX5_sign.desc).map (fun d => d.parameters.length) = some 2 := ⟨rfl, eSX5_sign⟩
abbrev rmX5_sign : Room := { frames := 7, cells := 0, slots := 0, locals := 158 }
def fX5_sign_L40_b (g : Nat) (x1_L40 : Int32) (z_s : Nat → Int32) (self : Int32 → Int32 → Int32 → (Nat → Int32) → Option (Int32 × Int32 × (Nat → Int32))) (x3_L40 : Int32) (x4_L40 : Int32) (x5_L40 : Int32) (z_m_L40 : Nat → Int32) : Option (Int32 × Int32 × (Nat → Int32)) := if 6 ≤ x5_L40 then (some (x3_L40, x4_L40, z_m_L40)) else (if 7 ≤ (z_s 1) then (some (x3_L40, x4_L40, z_m_L40)) else (bd1 (fX5_copies g z_s z_m_L40) fun z_m_26 => (bd1 (fX5_adds g x5_L40 5 x1_L40 z_m_26) fun z_m_28 => (gd (inB (4 + x1_L40) 45) (bd2 (fX5_comesIn g (z_s (4 + x1_L40).toNatClampNeg) 60 z_m_28) fun r31 z_m_32 => (if r31 < 0 then (self x3_L40 x4_L40 (x5_L40 + 1) z_m_32) else (if r31 < x4_L40 then (self x5_L40 r31 (x5_L40 + 1) z_m_32) else (self x3_L40 x4_L40 (x5_L40 + 1) z_m_32))))))))
def fX5_sign_L40 (g : Nat) (x1_L40 : Int32) (z_s : Nat → Int32) (n : Nat) : Int32 → Int32 → Int32 → (Nat → Int32) → Option (Int32 × Int32 × (Nat → Int32)) := lp (fX5_sign_L40_b g x1_L40 z_s) (fun _ _ _ _ => none) n
def fX5_sign (g : Nat) (p0 : Int32) (p1 : Int32) (z_s : Nat → Int32) (z_m : Nat → Int32) (z_refused : Nat → Int32) : Option (Int32 × (Nat → Int32) × (Nat → Int32)) := bd1 (fX5_isPlace g p0 z_s) fun r18 => (if r18 = 0 then (bd2 (fX5_no g (-1) z_refused) fun r46 z_refused_47 => (some (r46, z_m, z_refused_47))) else (bd1 (fX5_isIn g p1 0 1) fun r21 => (if r21 = 0 then (bd2 (fX5_no g (-2) z_refused) fun r43 z_refused_44 => (some (r43, z_m, z_refused_44))) else (bd3 (fX5_sign_L40 g p0 z_s g (-9) 1000000000 0 z_m) fun t36 t37 t38 => (if t36 < 0 then (some (t36, t38, z_refused)) else (if p1 = 0 then (some (t36, t38, z_refused)) else (some (t37, t38, z_refused))))))))
set_option maxHeartbeats 4000000 in
set_option maxRecDepth 100000 in
theorem kX5_sign (l : Launch) (D : va_G) (cI cJ : ClassId) (sz g : Nat) (a_z a_z_s a_z_m a_z_image a_z_was a_z_letters a_z_row a_z_refused a_z_numbers : Nat) (z_hasImage : Int32) (z_letterMany : Int32) (z_rowMany : Int32) (z_reading : Int32) (z_seed : Int32) (z_s : Nat → Int32) (z_m : Nat → Int32) (z_refused : Nat → Int32) (p0 : Int32) (p1 : Int32) (r : Int32) (n_z_m : Nat → Int32) (n_z_refused : Nat → Int32) (hf : fX5_sign g p0 p1 z_s z_m z_refused = some (r, n_z_m, n_z_refused)) : Met l yX5_sign wsX5_sign rmX5_sign (va_Pc [.ref a_z, .int p0, .int p1] (sPc D (tyL cI cJ) [(a_z, .inr (5, [.ref a_z_s, .ref a_z_m, .ref a_z_image, .ref a_z_was, .int z_hasImage, .ref a_z_letters, .ref a_z_row, .ref a_z_refused, .int z_letterMany, .int z_rowMany, .int z_reading, .ref a_z_numbers, .int z_seed])), (a_z_s, .inl (cI, 45, .inl z_s)), (a_z_m, .inl (cI, 45, .inl z_m)), (a_z_refused, .inl (cI, 7, .inl z_refused))] sz)) (qI D (tyL cI cJ) [(a_z, .inr (5, [.ref a_z_s, .ref a_z_m, .ref a_z_image, .ref a_z_was, .int z_hasImage, .ref a_z_letters, .ref a_z_row, .ref a_z_refused, .int z_letterMany, .int z_rowMany, .int z_reading, .ref a_z_numbers, .int z_seed])), (a_z_s, .inl (cI, 45, .inl z_s)), (a_z_m, .inl (cI, 45, .inl z_m)), (a_z_refused, .inl (cI, 7, .inl z_refused))] sz [(a_z, .inr (5, [.ref a_z_s, .ref a_z_m, .ref a_z_image, .ref a_z_was, .int z_hasImage, .ref a_z_letters, .ref a_z_row, .ref a_z_refused, .int z_letterMany, .int z_rowMany, .int z_reading, .ref a_z_numbers, .int z_seed])), (a_z_s, .inl (cI, 45, .inl z_s)), (a_z_m, .inl (cI, 45, .inl n_z_m)), (a_z_refused, .inl (cI, 7, .inl n_z_refused))] r) 0 0 (va_A [(a_z, .inr (5, [.ref a_z_s, .ref a_z_m, .ref a_z_image, .ref a_z_was, .int z_hasImage, .ref a_z_letters, .ref a_z_row, .ref a_z_refused, .int z_letterMany, .int z_rowMany, .int z_reading, .ref a_z_numbers, .int z_seed])), (a_z_s, .inl (cI, 45, .inl z_s)), (a_z_m, .inl (cI, 45, .inl z_m)), (a_z_refused, .inl (cI, 7, .inl z_refused))] sz) := by
  refine st_i (cc := cX5_sign) (maxL := 7) (by decide) rfl (Nat.le_of_ble_eq_true rfl) ?_
  intro p e s m args below meth c A Q F hret0 H locs hP hS ls hl
  have F : Cx p s m args c cX5_sign 7 wsX5_sign RX5 D (tyL cI cJ) A := F
  have hx := F.1.1
  have hb := F.1.2.1
  have hown := F.1.2.2.2.1
  have hts := F.1.2.2.2.2
  have iX5 : ∀ w ∈ wsX50, w ∈ wsX5_sign := fun w h => (List.mem_cons_of_mem _ (List.mem_append_right _ h))
  have hret : ∀ (pc : Nat) (H : Heap) (locs : List Loc) (ls : Array Slot) (r' : Int32) (m_z_m : Nat → Int32) (m_z_refused : Nat → Int32), some (r', m_z_m, m_z_refused) = some (r, n_z_m, n_z_refused) → narrow .int (.int r') = .int r' → decode cX5_sign pc = .ok (.ireturn, 1) → WD D A [(a_z, .inr (5, [.ref a_z_s, .ref a_z_m, .ref a_z_image, .ref a_z_was, .int z_hasImage, .ref a_z_letters, .ref a_z_row, .ref a_z_refused, .int z_letterMany, .int z_rowMany, .int z_reading, .ref a_z_numbers, .int z_seed])), (a_z_s, .inl (cI, 45, .inl z_s)), (a_z_m, .inl (cI, 45, .inl m_z_m)), (a_z_refused, .inl (cI, 7, .inl m_z_refused))] H → va_S A s.heap H locs → W p l e rmX5_sign s m args below meth c H locs 0 0 Q (F0 m pc ls [.int r']) := by
    intro pc H locs ls r' m_z_m m_z_refused h hn hd hP hS
    cases h
    exact hret0 pc H locs ls hn hd hP hS
  have L40 : ∀ (x1_L40 : Int32) (x2_L40 : Int32) (z_refused_L40 : Nat → Int32) (n : Nat) (x3_L40 : Int32) (x4_L40 : Int32) (x5_L40 : Int32) (z_m_L40 : Nat → Int32) (tt0 : Int32) (tt1 : Int32) (tt2 : Nat → Int32) (H : Heap) (locs : List Loc) (ls : Array Slot), fX5_sign_L40 g x1_L40 z_s n x3_L40 x4_L40 x5_L40 z_m_L40 = some (tt0, tt1, tt2) → WD D A [(a_z, .inr (5, [.ref a_z_s, .ref a_z_m, .ref a_z_image, .ref a_z_was, .int z_hasImage, .ref a_z_letters, .ref a_z_row, .ref a_z_refused, .int z_letterMany, .int z_rowMany, .int z_reading, .ref a_z_numbers, .int z_seed])), (a_z_s, .inl (cI, 45, .inl z_s)), (a_z_m, .inl (cI, 45, .inl z_m_L40)), (a_z_refused, .inl (cI, 7, .inl z_refused_L40))] H → va_S A s.heap H locs → lv_has ls 7 [(0, .ref a_z), (1, .int x1_L40), (2, .int x2_L40), (3, .int x3_L40), (4, .int x4_L40), (5, .int x5_L40)] → (∀ (H : Heap) (locs : List Loc) (ls : Array Slot), WD D A [(a_z, .inr (5, [.ref a_z_s, .ref a_z_m, .ref a_z_image, .ref a_z_was, .int z_hasImage, .ref a_z_letters, .ref a_z_row, .ref a_z_refused, .int z_letterMany, .int z_rowMany, .int z_reading, .ref a_z_numbers, .int z_seed])), (a_z_s, .inl (cI, 45, .inl z_s)), (a_z_m, .inl (cI, 45, .inl tt2)), (a_z_refused, .inl (cI, 7, .inl z_refused_L40))] H → va_S A s.heap H locs → lv_has ls 7 [(2, .int x2_L40), (3, .int tt0), (4, .int tt1)] → W p l e rmX5_sign s m args below meth c H locs 0 0 Q (F0 m 124 ls [])) → W p l e rmX5_sign s m args below meth c H locs 0 0 Q (F0 m 40 ls []) := by
    intro x1_L40 x2_L40 z_refused_L40 n
    induction n with
    | zero =>
      intro x3_L40 x4_L40 x5_L40 z_m_L40 tt0 tt1 tt2 H locs ls h
      exact (no_some h).elim
    | succ n ih =>
      intro x3_L40 x4_L40 x5_L40 z_m_L40 tt0 tt1 tt2 H locs ls h hP hS hl kE
      have h : fX5_sign_L40_b g x1_L40 z_s (fX5_sign_L40 g x1_L40 z_s n) x3_L40 x4_L40 x5_L40 z_m_L40 = some (tt0, tt1, tt2) := h
      unfold fX5_sign_L40_b at h
      refine lv_iload hx hb dX5_sign_40 (lv_at hl 5 rfl) ?_
      refine lv_bipush (v := 6) hx hb dX5_sign_42 (by decide) ?_
      refine lv_icmp_ge (tgt := 124) hx hb dX5_sign_44 (by decide) (fun hc24 => ?_) (fun hc24 => ?_)
      · have h := it_p hc24 h
        cases h
        exact kE H locs ls hP hS (lv_sub hl [2, 3, 4] rfl)
      · have h := it_n hc24 h
        refine lv_aload_n hx hb dX5_sign_47 rfl (lv_at hl 0 rfl) ?_
        refine gt_X5_9 F iX5 (List.mem_cons_of_mem _ (List.mem_append_left _ (List.mem_append_left _ (List.mem_of_getElem? (i := 1) rfl)))) hP 0 rfl dX5_sign_48 ?_
        refine lv_iconst (v := 1) hx hb dX5_sign_51 (by decide) ?_
        refine r_ia F hP 1 rfl (j := 1) rfl (by decide) dX5_sign_52 ?_
        refine lv_bipush (v := 7) hx hb dX5_sign_53 (by decide) ?_
        refine lv_icmp_ge (tgt := 124) hx hb dX5_sign_55 (by decide) (fun hc25 => ?_) (fun hc25 => ?_)
        · have h := it_p hc25 h
          cases h
          exact kE H locs ls hP hS (lv_sub hl [2, 3, 4] rfl)
        · have h := it_n hc25 h
          refine lv_aload_n hx hb dX5_sign_58 rfl (lv_at hl 0 rfl) ?_
          refine gt_X5_9 F iX5 (List.mem_cons_of_mem _ (List.mem_append_left _ (List.mem_append_left _ (List.mem_of_getElem? (i := 1) rfl)))) hP 0 rfl dX5_sign_59 ?_
          refine lv_aload_n hx hb dX5_sign_62 rfl (lv_at hl 0 rfl) ?_
          refine gt_X5_13 F iX5 (List.mem_cons_of_mem _ (List.mem_append_left _ (List.mem_append_left _ (List.mem_of_getElem? (i := 2) rfl)))) hP 0 rfl dX5_sign_63 ?_
          obtain ⟨z_m_26, hk27, h⟩ := bd1_e h
          refine cS_v (rest := []) F (kX5_copies l D cI cJ H.size g a_z_s a_z_m z_s z_m_L40 z_m_26 hk27) (va_cwS 2 hts gX5_sign_X5_copies rfl rfl rfl eSX5_copies ⟨Nat.le_of_ble_eq_true rfl, Nat.le_of_ble_eq_true rfl⟩) [1, 2] hP hS (by decide) rfl rfl rfl hl.1 (Nat.le_of_ble_eq_true rfl) ⟨Nat.le_refl _, Nat.le_refl _⟩ rfl dX5_sign_66 (fun H locs hP hS => ?_)
          have hP : WD D A [(a_z, .inr (5, [.ref a_z_s, .ref a_z_m, .ref a_z_image, .ref a_z_was, .int z_hasImage, .ref a_z_letters, .ref a_z_row, .ref a_z_refused, .int z_letterMany, .int z_rowMany, .int z_reading, .ref a_z_numbers, .int z_seed])), (a_z_s, .inl (cI, 45, .inl z_s)), (a_z_m, .inl (cI, 45, .inl z_m_26)), (a_z_refused, .inl (cI, 7, .inl z_refused_L40))] H := hP
          refine lv_aload_n hx hb dX5_sign_69 rfl (lv_at hl 0 rfl) ?_
          refine gt_X5_13 F iX5 (List.mem_cons_of_mem _ (List.mem_append_left _ (List.mem_append_left _ (List.mem_of_getElem? (i := 2) rfl)))) hP 0 rfl dX5_sign_70 ?_
          refine lv_iload hx hb dX5_sign_73 (lv_at hl 5 rfl) ?_
          refine lv_iconst (v := 5) hx hb dX5_sign_75 (by decide) ?_
          refine lv_iload_n hx hb dX5_sign_76 rfl (lv_at hl 1 rfl) ?_
          obtain ⟨z_m_28, hk29, h⟩ := bd1_e h
          refine cS_v (rest := []) F (kX5_adds l D cI cJ H.size g a_z_m z_m_26 x5_L40 5 x1_L40 z_m_28 hk29) (va_cwS 4 hts gX5_sign_X5_adds rfl rfl rfl eSX5_adds ⟨Nat.le_of_ble_eq_true rfl, Nat.le_of_ble_eq_true rfl⟩) [2] hP hS (by decide) rfl rfl rfl hl.1 (Nat.le_of_ble_eq_true rfl) ⟨Nat.le_refl _, Nat.le_refl _⟩ rfl dX5_sign_77 (fun H locs hP hS => ?_)
          have hP : WD D A [(a_z, .inr (5, [.ref a_z_s, .ref a_z_m, .ref a_z_image, .ref a_z_was, .int z_hasImage, .ref a_z_letters, .ref a_z_row, .ref a_z_refused, .int z_letterMany, .int z_rowMany, .int z_reading, .ref a_z_numbers, .int z_seed])), (a_z_s, .inl (cI, 45, .inl z_s)), (a_z_m, .inl (cI, 45, .inl z_m_28)), (a_z_refused, .inl (cI, 7, .inl z_refused_L40))] H := hP
          refine lv_aload_n hx hb dX5_sign_80 rfl (lv_at hl 0 rfl) ?_
          refine lv_aload_n hx hb dX5_sign_81 rfl (lv_at hl 0 rfl) ?_
          refine gt_X5_9 F iX5 (List.mem_cons_of_mem _ (List.mem_append_left _ (List.mem_append_left _ (List.mem_of_getElem? (i := 1) rfl)))) hP 0 rfl dX5_sign_82 ?_
          refine lv_iconst (v := 4) hx hb dX5_sign_85 (by decide) ?_
          refine lv_iload_n hx hb dX5_sign_86 rfl (lv_at hl 1 rfl) ?_
          refine lv_iadd hx hb dX5_sign_87 ?_
          obtain ⟨hg30, h⟩ := gd_e h
          refine r_ia F hP 1 rfl rfl hg30 dX5_sign_88 ?_
          refine lv_bipush (v := 60) hx hb dX5_sign_89 (by decide) ?_
          obtain ⟨r31, z_m_32, hk33, h⟩ := bd2_e h
          refine cV_i (rest := []) F (kX5_comesIn l D cI cJ H.size g a_z a_z_s a_z_m a_z_image a_z_was a_z_letters a_z_row a_z_refused a_z_numbers z_hasImage z_letterMany z_rowMany z_reading z_seed z_m_28 (z_s (4 + x1_L40).toNatClampNeg) 60 r31 z_m_32 hk33) (cwV 2 hts gX5_sign_X5_comesIn rfl rfl rfl eVX5_comesIn ⟨Nat.le_of_ble_eq_true rfl, Nat.le_of_ble_eq_true rfl⟩) [0, 2] hP hS (by decide) rfl rfl 0 rfl rfl rfl hl.1 (Nat.le_of_ble_eq_true rfl) ⟨Nat.le_refl _, Nat.le_refl _⟩ rfl dX5_sign_91 (fun H locs hP hS => ?_)
          have hP : WD D A [(a_z, .inr (5, [.ref a_z_s, .ref a_z_m, .ref a_z_image, .ref a_z_was, .int z_hasImage, .ref a_z_letters, .ref a_z_row, .ref a_z_refused, .int z_letterMany, .int z_rowMany, .int z_reading, .ref a_z_numbers, .int z_seed])), (a_z_s, .inl (cI, 45, .inl z_s)), (a_z_m, .inl (cI, 45, .inl z_m_32)), (a_z_refused, .inl (cI, 7, .inl z_refused_L40))] H := hP
          refine lv_istore (lv' := [(6, .int r31), (0, .ref a_z), (1, .int x1_L40), (2, .int x2_L40), (3, .int x3_L40), (4, .int x4_L40), (5, .int x5_L40)]) hx hb dX5_sign_94 hl (by decide) rfl (fun ls hl => ?_)
          refine lv_iload hx hb dX5_sign_96 (lv_at hl 0 rfl) ?_
          refine lv_if_lt (tgt := 118) hx hb dX5_sign_98 (by decide) (fun hc34 => ?_) (fun hc34 => ?_)
          · have h := it_p hc34 h
            refine lv_iinc (v := x5_L40 + 1) (lv' := [(5, .int (x5_L40 + 1)), (6, .int r31), (0, .ref a_z), (1, .int x1_L40), (2, .int x2_L40), (3, .int x3_L40), (4, .int x4_L40)]) hx hb dX5_sign_118 hl (k := 6) rfl rfl (by decide) rfl (fun ls hl => ?_)
            refine lv_goto (tgt := 40) hx hb dX5_sign_121 (by decide) ?_
            exact ih x3_L40 x4_L40 (x5_L40 + 1) z_m_32 tt0 tt1 tt2 H locs ls h hP hS (lv_sub hl [2, 3, 4, 5, 6, 0] rfl) kE
          · have h := it_n hc34 h
            refine lv_iload hx hb dX5_sign_101 (lv_at hl 0 rfl) ?_
            refine lv_iload hx hb dX5_sign_103 (lv_at hl 5 rfl) ?_
            refine lv_icmp_lt (tgt := 111) hx hb dX5_sign_105 (by decide) (fun hc35 => ?_) (fun hc35 => ?_)
            · have h := it_p hc35 h
              refine lv_iload hx hb dX5_sign_111 (lv_at hl 6 rfl) ?_
              refine lv_istore_n (lv' := [(3, .int x5_L40), (6, .int r31), (0, .ref a_z), (1, .int x1_L40), (2, .int x2_L40), (4, .int x4_L40), (5, .int x5_L40)]) hx hb dX5_sign_113 rfl hl (by decide) rfl (fun ls hl => ?_)
              refine lv_iload hx hb dX5_sign_114 (lv_at hl 1 rfl) ?_
              refine lv_istore (lv' := [(4, .int r31), (3, .int x5_L40), (6, .int r31), (0, .ref a_z), (1, .int x1_L40), (2, .int x2_L40), (5, .int x5_L40)]) hx hb dX5_sign_116 hl (by decide) rfl (fun ls hl => ?_)
              refine lv_iinc (v := x5_L40 + 1) (lv' := [(5, .int (x5_L40 + 1)), (4, .int r31), (3, .int x5_L40), (6, .int r31), (0, .ref a_z), (1, .int x1_L40), (2, .int x2_L40)]) hx hb dX5_sign_118 hl (k := 6) rfl rfl (by decide) rfl (fun ls hl => ?_)
              refine lv_goto (tgt := 40) hx hb dX5_sign_121 (by decide) ?_
              exact ih x5_L40 r31 (x5_L40 + 1) z_m_32 tt0 tt1 tt2 H locs ls h hP hS (lv_sub hl [4, 5, 6, 2, 1, 0] rfl) kE
            · have h := it_n hc35 h
              refine lv_goto (tgt := 118) hx hb dX5_sign_108 (by decide) ?_
              refine lv_iinc (v := x5_L40 + 1) (lv' := [(5, .int (x5_L40 + 1)), (6, .int r31), (0, .ref a_z), (1, .int x1_L40), (2, .int x2_L40), (3, .int x3_L40), (4, .int x4_L40)]) hx hb dX5_sign_118 hl (k := 6) rfl rfl (by decide) rfl (fun ls hl => ?_)
              refine lv_goto (tgt := 40) hx hb dX5_sign_121 (by decide) ?_
              exact ih x3_L40 x4_L40 (x5_L40 + 1) z_m_32 tt0 tt1 tt2 H locs ls h hP hS (lv_sub hl [2, 3, 4, 5, 6, 0] rfl) kE
  have hl : lv_has ls 7 [(0, .ref a_z), (1, .int p0), (2, .int p1)] := hl
  have h := hf
  unfold fX5_sign at h
  refine lv_aload_n hx hb dX5_sign_0 rfl (lv_at hl 0 rfl) ?_
  refine lv_iload_n hx hb dX5_sign_1 rfl (lv_at hl 1 rfl) ?_
  obtain ⟨r18, hk19, h⟩ := bd1_e h
  refine cV_i (rest := []) F (kX5_isPlace l D cI cJ H.size g a_z a_z_s a_z_m a_z_image a_z_was a_z_letters a_z_row a_z_refused a_z_numbers z_hasImage z_letterMany z_rowMany z_reading z_seed z_s p0 r18 hk19) (cwV 1 hts gX5_sign_X5_isPlace rfl rfl rfl eVX5_isPlace ⟨Nat.le_of_ble_eq_true rfl, Nat.le_of_ble_eq_true rfl⟩) [0, 1] hP hS (by decide) rfl rfl 0 rfl rfl rfl hl.1 (Nat.le_of_ble_eq_true rfl) ⟨Nat.le_refl _, Nat.le_refl _⟩ rfl dX5_sign_2 (fun H locs hP hS => ?_)
  have hP : WD D A [(a_z, .inr (5, [.ref a_z_s, .ref a_z_m, .ref a_z_image, .ref a_z_was, .int z_hasImage, .ref a_z_letters, .ref a_z_row, .ref a_z_refused, .int z_letterMany, .int z_rowMany, .int z_reading, .ref a_z_numbers, .int z_seed])), (a_z_s, .inl (cI, 45, .inl z_s)), (a_z_m, .inl (cI, 45, .inl z_m)), (a_z_refused, .inl (cI, 7, .inl z_refused))] H := hP
  refine lv_if_ne (tgt := 14) hx hb dX5_sign_5 (by decide) (fun hc20 => ?_) (fun hc20 => ?_)
  · have h := it_n hc20 h
    refine lv_iload_n hx hb dX5_sign_14 rfl (lv_at hl 2 rfl) ?_
    refine lv_iconst (v := 0) hx hb dX5_sign_15 (by decide) ?_
    refine lv_iconst (v := 1) hx hb dX5_sign_16 (by decide) ?_
    obtain ⟨r21, hk22, h⟩ := bd1_e h
    refine cS_i (rest := []) F (kX5_isIn l D cI cJ H.size g p1 0 1 r21 hk22) (va_cwS 3 hts gX5_sign_X5_isIn rfl rfl rfl eSX5_isIn ⟨Nat.le_of_ble_eq_true rfl, Nat.le_of_ble_eq_true rfl⟩) [] hP hS (by decide) rfl rfl rfl hl.1 (Nat.le_of_ble_eq_true rfl) ⟨Nat.le_refl _, Nat.le_refl _⟩ rfl dX5_sign_17 (fun H locs hP hS => ?_)
    have hP : WD D A [(a_z, .inr (5, [.ref a_z_s, .ref a_z_m, .ref a_z_image, .ref a_z_was, .int z_hasImage, .ref a_z_letters, .ref a_z_row, .ref a_z_refused, .int z_letterMany, .int z_rowMany, .int z_reading, .ref a_z_numbers, .int z_seed])), (a_z_s, .inl (cI, 45, .inl z_s)), (a_z_m, .inl (cI, 45, .inl z_m)), (a_z_refused, .inl (cI, 7, .inl z_refused))] H := hP
    refine lv_if_ne (tgt := 30) hx hb dX5_sign_20 (by decide) (fun hc23 => ?_) (fun hc23 => ?_)
    · have h := it_n hc23 h
      refine lv_bipush (v := (-9)) hx hb dX5_sign_30 (by decide) ?_
      refine lv_istore_n (lv' := [(3, .int (-9)), (0, .ref a_z), (1, .int p0), (2, .int p1)]) hx hb dX5_sign_32 rfl hl (by decide) rfl (fun ls hl => ?_)
      refine lv_ldc (v := 1000000000) hx hb hown (hts _ (List.mem_cons_of_mem _ (List.mem_append_left _ (List.mem_append_left _ (List.mem_of_getElem? (i := 0) rfl))))) dX5_sign_33 ?_
      refine lv_istore (lv' := [(4, .int 1000000000), (3, .int (-9)), (0, .ref a_z), (1, .int p0), (2, .int p1)]) hx hb dX5_sign_35 hl (by decide) rfl (fun ls hl => ?_)
      refine lv_iconst (v := 0) hx hb dX5_sign_37 (by decide) ?_
      refine lv_istore (lv' := [(5, .int 0), (4, .int 1000000000), (3, .int (-9)), (0, .ref a_z), (1, .int p0), (2, .int p1)]) hx hb dX5_sign_38 hl (by decide) rfl (fun ls hl => ?_)
      obtain ⟨t36, t37, t38, hk41, h⟩ := bd3_e h
      refine L40 p0 p1 z_refused g (-9) 1000000000 0 z_m t36 t37 t38 H locs ls hk41 hP hS (lv_sub hl [3, 4, 5, 2, 1, 0] rfl) (fun H locs ls hP hS hl => ?_)
      refine lv_iload_n hx hb dX5_sign_124 rfl (lv_at hl 1 rfl) ?_
      refine lv_if_lt (tgt := 132) hx hb dX5_sign_125 (by decide) (fun hc39 => ?_) (fun hc39 => ?_)
      · have h := it_p hc39 h
        refine lv_iload_n hx hb dX5_sign_132 rfl (lv_at hl 1 rfl) ?_
        refine lv_goto (tgt := 138) hx hb dX5_sign_133 (by decide) ?_
        exact hret 138 H locs ls t36 t38 z_refused h rfl dX5_sign_138 hP hS
      · have h := it_n hc39 h
        refine lv_iload_n hx hb dX5_sign_128 rfl (lv_at hl 0 rfl) ?_
        refine lv_if_ne (tgt := 136) hx hb dX5_sign_129 (by decide) (fun hc40 => ?_) (fun hc40 => ?_)
        · have h := it_n hc40 h
          refine lv_iload hx hb dX5_sign_136 (lv_at hl 2 rfl) ?_
          exact hret 138 H locs ls t37 t38 z_refused h rfl dX5_sign_138 hP hS
        · have h := it_p hc40 h
          refine lv_iload_n hx hb dX5_sign_132 rfl (lv_at hl 1 rfl) ?_
          refine lv_goto (tgt := 138) hx hb dX5_sign_133 (by decide) ?_
          exact hret 138 H locs ls t36 t38 z_refused h rfl dX5_sign_138 hP hS
    · have h := it_p hc23 h
      refine lv_aload_n hx hb dX5_sign_23 rfl (lv_at hl 0 rfl) ?_
      refine lv_bipush (v := (-2)) hx hb dX5_sign_24 (by decide) ?_
      obtain ⟨r43, z_refused_44, hk45, h⟩ := bd2_e h
      refine cV_i (rest := []) F (kX5_no l D cI cJ H.size g a_z a_z_s a_z_m a_z_image a_z_was a_z_letters a_z_row a_z_refused a_z_numbers z_hasImage z_letterMany z_rowMany z_reading z_seed z_refused (-2) r43 z_refused_44 hk45) (cwV 1 hts gX5_sign_X5_no rfl rfl rfl eVX5_no ⟨Nat.le_of_ble_eq_true rfl, Nat.le_of_ble_eq_true rfl⟩) [0, 3] hP hS (by decide) rfl rfl 0 rfl rfl rfl hl.1 (Nat.le_of_ble_eq_true rfl) ⟨Nat.le_refl _, Nat.le_refl _⟩ rfl dX5_sign_26 (fun H locs hP hS => ?_)
      have hP : WD D A [(a_z, .inr (5, [.ref a_z_s, .ref a_z_m, .ref a_z_image, .ref a_z_was, .int z_hasImage, .ref a_z_letters, .ref a_z_row, .ref a_z_refused, .int z_letterMany, .int z_rowMany, .int z_reading, .ref a_z_numbers, .int z_seed])), (a_z_s, .inl (cI, 45, .inl z_s)), (a_z_m, .inl (cI, 45, .inl z_m)), (a_z_refused, .inl (cI, 7, .inl z_refused_44))] H := hP
      exact hret 29 H locs ls r43 z_m z_refused_44 h rfl dX5_sign_29 hP hS
  · have h := it_p hc20 h
    refine lv_aload_n hx hb dX5_sign_8 rfl (lv_at hl 0 rfl) ?_
    refine lv_iconst (v := (-1)) hx hb dX5_sign_9 (by decide) ?_
    obtain ⟨r46, z_refused_47, hk48, h⟩ := bd2_e h
    refine cV_i (rest := []) F (kX5_no l D cI cJ H.size g a_z a_z_s a_z_m a_z_image a_z_was a_z_letters a_z_row a_z_refused a_z_numbers z_hasImage z_letterMany z_rowMany z_reading z_seed z_refused (-1) r46 z_refused_47 hk48) (cwV 1 hts gX5_sign_X5_no rfl rfl rfl eVX5_no ⟨Nat.le_of_ble_eq_true rfl, Nat.le_of_ble_eq_true rfl⟩) [0, 3] hP hS (by decide) rfl rfl 0 rfl rfl rfl hl.1 (Nat.le_of_ble_eq_true rfl) ⟨Nat.le_refl _, Nat.le_refl _⟩ rfl dX5_sign_10 (fun H locs hP hS => ?_)
    have hP : WD D A [(a_z, .inr (5, [.ref a_z_s, .ref a_z_m, .ref a_z_image, .ref a_z_was, .int z_hasImage, .ref a_z_letters, .ref a_z_row, .ref a_z_refused, .int z_letterMany, .int z_rowMany, .int z_reading, .ref a_z_numbers, .int z_seed])), (a_z_s, .inl (cI, 45, .inl z_s)), (a_z_m, .inl (cI, 45, .inl z_m)), (a_z_refused, .inl (cI, 7, .inl z_refused_47))] H := hP
    exact hret 13 H locs ls r46 z_m z_refused_47 h rfl dX5_sign_13 hP hS
theorem eSX5_home : yX5_home.cls ≠ "java/lang/invoke/MethodHandle" ∧ yX5_home.cls ≠ "java/lang/invoke/VarHandle" ∧ (parseMethodDescriptor yX5_home.desc).map (fun d => d.parameters.length) = some 1 := by decide +kernel
theorem eVX5_home : yX5_home.cls = RX5 ∧ yX5_home.cls ≠ "java/lang/invoke/MethodHandle" ∧ yX5_home.cls ≠ "java/lang/invoke/VarHandle" ∧ (parseMethodDescriptor yX5_home.desc).map (fun d => d.parameters.length) = some 1 := ⟨rfl, eSX5_home⟩
abbrev rmX5_home : Room := { frames := 2, cells := 0, slots := 0, locals := 43 }
def fX5_home (g : Nat) (p0 : Int32) (z_s : Nat → Int32) (z_refused : Nat → Int32) : Option (Int32 × (Nat → Int32)) := bd1 (fX5_isHand g p0 z_s) fun r11 => (if r11 = 0 then (bd2 (fX5_no g (-1) z_refused) fun r14 z_refused_15 => (some (r14, z_refused_15))) else (bd1 (fX5_cellOf g p0 z_s) fun r17 => (bd1 (fX5_steps g (z_s 3) r17) fun r19 => (some (r19, z_refused)))))
set_option maxHeartbeats 4000000 in
set_option maxRecDepth 100000 in
theorem kX5_home (l : Launch) (D : va_G) (cI cJ : ClassId) (sz g : Nat) (a_z a_z_s a_z_m a_z_image a_z_was a_z_letters a_z_row a_z_refused a_z_numbers : Nat) (z_hasImage : Int32) (z_letterMany : Int32) (z_rowMany : Int32) (z_reading : Int32) (z_seed : Int32) (z_s : Nat → Int32) (z_refused : Nat → Int32) (p0 : Int32) (r : Int32) (n_z_refused : Nat → Int32) (hf : fX5_home g p0 z_s z_refused = some (r, n_z_refused)) : Met l yX5_home wsX5_home rmX5_home (va_Pc [.ref a_z, .int p0] (sPc D (tyL cI cJ) [(a_z, .inr (5, [.ref a_z_s, .ref a_z_m, .ref a_z_image, .ref a_z_was, .int z_hasImage, .ref a_z_letters, .ref a_z_row, .ref a_z_refused, .int z_letterMany, .int z_rowMany, .int z_reading, .ref a_z_numbers, .int z_seed])), (a_z_s, .inl (cI, 45, .inl z_s)), (a_z_refused, .inl (cI, 7, .inl z_refused))] sz)) (qI D (tyL cI cJ) [(a_z, .inr (5, [.ref a_z_s, .ref a_z_m, .ref a_z_image, .ref a_z_was, .int z_hasImage, .ref a_z_letters, .ref a_z_row, .ref a_z_refused, .int z_letterMany, .int z_rowMany, .int z_reading, .ref a_z_numbers, .int z_seed])), (a_z_s, .inl (cI, 45, .inl z_s)), (a_z_refused, .inl (cI, 7, .inl z_refused))] sz [(a_z, .inr (5, [.ref a_z_s, .ref a_z_m, .ref a_z_image, .ref a_z_was, .int z_hasImage, .ref a_z_letters, .ref a_z_row, .ref a_z_refused, .int z_letterMany, .int z_rowMany, .int z_reading, .ref a_z_numbers, .int z_seed])), (a_z_s, .inl (cI, 45, .inl z_s)), (a_z_refused, .inl (cI, 7, .inl n_z_refused))] r) 0 0 (va_A [(a_z, .inr (5, [.ref a_z_s, .ref a_z_m, .ref a_z_image, .ref a_z_was, .int z_hasImage, .ref a_z_letters, .ref a_z_row, .ref a_z_refused, .int z_letterMany, .int z_rowMany, .int z_reading, .ref a_z_numbers, .int z_seed])), (a_z_s, .inl (cI, 45, .inl z_s)), (a_z_refused, .inl (cI, 7, .inl z_refused))] sz) := by
  refine st_i (cc := cX5_home) (maxL := 2) (by decide) rfl (Nat.le_of_ble_eq_true rfl) ?_
  intro p e s m args below meth c A Q F hret0 H locs hP hS ls hl
  have F : Cx p s m args c cX5_home 2 wsX5_home RX5 D (tyL cI cJ) A := F
  have hx := F.1.1
  have hb := F.1.2.1
  have hown := F.1.2.2.2.1
  have hts := F.1.2.2.2.2
  have iX5 : ∀ w ∈ wsX50, w ∈ wsX5_home := fun w h => (List.mem_cons_of_mem _ (List.mem_append_right _ h))
  have hret : ∀ (pc : Nat) (H : Heap) (locs : List Loc) (ls : Array Slot) (r' : Int32) (m_z_refused : Nat → Int32), some (r', m_z_refused) = some (r, n_z_refused) → narrow .int (.int r') = .int r' → decode cX5_home pc = .ok (.ireturn, 1) → WD D A [(a_z, .inr (5, [.ref a_z_s, .ref a_z_m, .ref a_z_image, .ref a_z_was, .int z_hasImage, .ref a_z_letters, .ref a_z_row, .ref a_z_refused, .int z_letterMany, .int z_rowMany, .int z_reading, .ref a_z_numbers, .int z_seed])), (a_z_s, .inl (cI, 45, .inl z_s)), (a_z_refused, .inl (cI, 7, .inl m_z_refused))] H → va_S A s.heap H locs → W p l e rmX5_home s m args below meth c H locs 0 0 Q (F0 m pc ls [.int r']) := by
    intro pc H locs ls r' m_z_refused h hn hd hP hS
    cases h
    exact hret0 pc H locs ls hn hd hP hS
  have hl : lv_has ls 2 [(0, .ref a_z), (1, .int p0)] := hl
  have h := hf
  unfold fX5_home at h
  refine lv_aload_n hx hb dX5_home_0 rfl (lv_at hl 0 rfl) ?_
  refine lv_iload_n hx hb dX5_home_1 rfl (lv_at hl 1 rfl) ?_
  obtain ⟨r11, hk12, h⟩ := bd1_e h
  refine cV_i (rest := []) F (kX5_isHand l D cI cJ H.size g a_z a_z_s a_z_m a_z_image a_z_was a_z_letters a_z_row a_z_refused a_z_numbers z_hasImage z_letterMany z_rowMany z_reading z_seed z_s p0 r11 hk12) (cwV 1 hts gX5_home_X5_isHand rfl rfl rfl eVX5_isHand ⟨Nat.le_of_ble_eq_true rfl, Nat.le_of_ble_eq_true rfl⟩) [0, 1] hP hS (by decide) rfl rfl 0 rfl rfl rfl hl.1 (Nat.le_of_ble_eq_true rfl) ⟨Nat.le_refl _, Nat.le_refl _⟩ rfl dX5_home_2 (fun H locs hP hS => ?_)
  have hP : WD D A [(a_z, .inr (5, [.ref a_z_s, .ref a_z_m, .ref a_z_image, .ref a_z_was, .int z_hasImage, .ref a_z_letters, .ref a_z_row, .ref a_z_refused, .int z_letterMany, .int z_rowMany, .int z_reading, .ref a_z_numbers, .int z_seed])), (a_z_s, .inl (cI, 45, .inl z_s)), (a_z_refused, .inl (cI, 7, .inl z_refused))] H := hP
  refine lv_if_eq (tgt := 28) hx hb dX5_home_5 (by decide) (fun hc13 => ?_) (fun hc13 => ?_)
  · have h := it_p hc13 h
    refine lv_aload_n hx hb dX5_home_28 rfl (lv_at hl 0 rfl) ?_
    refine lv_iconst (v := (-1)) hx hb dX5_home_29 (by decide) ?_
    obtain ⟨r14, z_refused_15, hk16, h⟩ := bd2_e h
    refine cV_i (rest := []) F (kX5_no l D cI cJ H.size g a_z a_z_s a_z_m a_z_image a_z_was a_z_letters a_z_row a_z_refused a_z_numbers z_hasImage z_letterMany z_rowMany z_reading z_seed z_refused (-1) r14 z_refused_15 hk16) (cwV 1 hts gX5_home_X5_no rfl rfl rfl eVX5_no ⟨Nat.le_of_ble_eq_true rfl, Nat.le_of_ble_eq_true rfl⟩) [0, 2] hP hS (by decide) rfl rfl 0 rfl rfl rfl hl.1 (Nat.le_of_ble_eq_true rfl) ⟨Nat.le_refl _, Nat.le_refl _⟩ rfl dX5_home_30 (fun H locs hP hS => ?_)
    have hP : WD D A [(a_z, .inr (5, [.ref a_z_s, .ref a_z_m, .ref a_z_image, .ref a_z_was, .int z_hasImage, .ref a_z_letters, .ref a_z_row, .ref a_z_refused, .int z_letterMany, .int z_rowMany, .int z_reading, .ref a_z_numbers, .int z_seed])), (a_z_s, .inl (cI, 45, .inl z_s)), (a_z_refused, .inl (cI, 7, .inl z_refused_15))] H := hP
    exact hret 33 H locs ls r14 z_refused_15 h rfl dX5_home_33 hP hS
  · have h := it_n hc13 h
    refine lv_aload_n hx hb dX5_home_8 rfl (lv_at hl 0 rfl) ?_
    refine gt_X5_9 F iX5 (List.mem_cons_of_mem _ (List.mem_append_left _ (List.mem_append_left _ (List.mem_of_getElem? (i := 0) rfl)))) hP 0 rfl dX5_home_9 ?_
    refine lv_iconst (v := 3) hx hb dX5_home_12 (by decide) ?_
    refine r_ia F hP 1 rfl (j := 3) rfl (by decide) dX5_home_13 ?_
    refine lv_aload_n hx hb dX5_home_14 rfl (lv_at hl 0 rfl) ?_
    refine gt_X5_9 F iX5 (List.mem_cons_of_mem _ (List.mem_append_left _ (List.mem_append_left _ (List.mem_of_getElem? (i := 0) rfl)))) hP 0 rfl dX5_home_15 ?_
    refine lv_iload_n hx hb dX5_home_18 rfl (lv_at hl 1 rfl) ?_
    obtain ⟨r17, hk18, h⟩ := bd1_e h
    refine cS_i (rest := [.int (z_s 3)]) F (kX5_cellOf l D cI cJ H.size g a_z_s z_s p0 r17 hk18) (va_cwS 2 hts gX5_home_X5_cellOf rfl rfl rfl eSX5_cellOf ⟨Nat.le_of_ble_eq_true rfl, Nat.le_of_ble_eq_true rfl⟩) [1] hP hS (by decide) rfl rfl rfl hl.1 (Nat.le_of_ble_eq_true rfl) ⟨Nat.le_refl _, Nat.le_refl _⟩ rfl dX5_home_19 (fun H locs hP hS => ?_)
    have hP : WD D A [(a_z, .inr (5, [.ref a_z_s, .ref a_z_m, .ref a_z_image, .ref a_z_was, .int z_hasImage, .ref a_z_letters, .ref a_z_row, .ref a_z_refused, .int z_letterMany, .int z_rowMany, .int z_reading, .ref a_z_numbers, .int z_seed])), (a_z_s, .inl (cI, 45, .inl z_s)), (a_z_refused, .inl (cI, 7, .inl z_refused))] H := hP
    obtain ⟨r19, hk20, h⟩ := bd1_e h
    refine cS_i (rest := []) F (kX5_steps l D cI cJ H.size g (z_s 3) r17 r19 hk20) (va_cwS 2 hts gX5_home_X5_steps rfl rfl rfl eSX5_steps ⟨Nat.le_of_ble_eq_true rfl, Nat.le_of_ble_eq_true rfl⟩) [] hP hS (by decide) rfl rfl rfl hl.1 (Nat.le_of_ble_eq_true rfl) ⟨Nat.le_refl _, Nat.le_refl _⟩ rfl dX5_home_22 (fun H locs hP hS => ?_)
    have hP : WD D A [(a_z, .inr (5, [.ref a_z_s, .ref a_z_m, .ref a_z_image, .ref a_z_was, .int z_hasImage, .ref a_z_letters, .ref a_z_row, .ref a_z_refused, .int z_letterMany, .int z_rowMany, .int z_reading, .ref a_z_numbers, .int z_seed])), (a_z_s, .inl (cI, 45, .inl z_s)), (a_z_refused, .inl (cI, 7, .inl z_refused))] H := hP
    refine lv_goto (tgt := 33) hx hb dX5_home_25 (by decide) ?_
    exact hret 33 H locs ls r19 z_refused h rfl dX5_home_33 hP hS
theorem eSX5_nearest : yX5_nearest.cls ≠ "java/lang/invoke/MethodHandle" ∧ yX5_nearest.cls ≠ "java/lang/invoke/VarHandle" ∧ (parseMethodDescriptor yX5_nearest.desc).map (fun d => d.parameters.length) = some 0 := by decide +kernel
theorem eVX5_nearest : yX5_nearest.cls = RX5 ∧ yX5_nearest.cls ≠ "java/lang/invoke/MethodHandle" ∧ yX5_nearest.cls ≠ "java/lang/invoke/VarHandle" ∧ (parseMethodDescriptor yX5_nearest.desc).map (fun d => d.parameters.length) = some 0 := ⟨rfl, eSX5_nearest⟩
abbrev rmX5_nearest : Room := { frames := 2, cells := 0, slots := 0, locals := 41 }
def fX5_nearest_L5_b (g : Nat) (z_s : Nat → Int32) (self : Int32 → Int32 → Option (Int32)) (x1_L5 : Int32) (x2_L5 : Int32) : Option (Int32) := if (z_s 0) ≤ x2_L5 then (some x1_L5) else (if x1_L5 < 0 then (self x2_L5 (x2_L5 + 1)) else (gd (inB (4 + x2_L5) 45) (bd1 (fX5_steps g (z_s 3) (z_s (4 + x2_L5).toNatClampNeg)) fun r5 => (gd (inB (4 + x1_L5) 45) (bd1 (fX5_steps g (z_s 3) (z_s (4 + x1_L5).toNatClampNeg)) fun r8 => (if r8 ≤ r5 then (self x1_L5 (x2_L5 + 1)) else (self x2_L5 (x2_L5 + 1))))))))
def fX5_nearest_L5 (g : Nat) (z_s : Nat → Int32) (n : Nat) : Int32 → Int32 → Option (Int32) := lp (fX5_nearest_L5_b g z_s) (fun _ _ => none) n
def fX5_nearest (g : Nat) (z_s : Nat → Int32) : Option (Int32) := bd1 (fX5_nearest_L5 g z_s g (-9) 0) fun t11 => (some t11)
set_option maxHeartbeats 4000000 in
set_option maxRecDepth 100000 in
theorem kX5_nearest (l : Launch) (D : va_G) (cI cJ : ClassId) (sz g : Nat) (a_z a_z_s a_z_m a_z_image a_z_was a_z_letters a_z_row a_z_refused a_z_numbers : Nat) (z_hasImage : Int32) (z_letterMany : Int32) (z_rowMany : Int32) (z_reading : Int32) (z_seed : Int32) (z_s : Nat → Int32) (r : Int32) (hf : fX5_nearest g z_s = some r) : Met l yX5_nearest wsX5_nearest rmX5_nearest (va_Pc [.ref a_z] (sPc D (tyL cI cJ) [(a_z, .inr (5, [.ref a_z_s, .ref a_z_m, .ref a_z_image, .ref a_z_was, .int z_hasImage, .ref a_z_letters, .ref a_z_row, .ref a_z_refused, .int z_letterMany, .int z_rowMany, .int z_reading, .ref a_z_numbers, .int z_seed])), (a_z_s, .inl (cI, 45, .inl z_s))] sz)) (qI D (tyL cI cJ) [(a_z, .inr (5, [.ref a_z_s, .ref a_z_m, .ref a_z_image, .ref a_z_was, .int z_hasImage, .ref a_z_letters, .ref a_z_row, .ref a_z_refused, .int z_letterMany, .int z_rowMany, .int z_reading, .ref a_z_numbers, .int z_seed])), (a_z_s, .inl (cI, 45, .inl z_s))] sz [(a_z, .inr (5, [.ref a_z_s, .ref a_z_m, .ref a_z_image, .ref a_z_was, .int z_hasImage, .ref a_z_letters, .ref a_z_row, .ref a_z_refused, .int z_letterMany, .int z_rowMany, .int z_reading, .ref a_z_numbers, .int z_seed])), (a_z_s, .inl (cI, 45, .inl z_s))] r) 0 0 (va_A [(a_z, .inr (5, [.ref a_z_s, .ref a_z_m, .ref a_z_image, .ref a_z_was, .int z_hasImage, .ref a_z_letters, .ref a_z_row, .ref a_z_refused, .int z_letterMany, .int z_rowMany, .int z_reading, .ref a_z_numbers, .int z_seed])), (a_z_s, .inl (cI, 45, .inl z_s))] sz) := by
  refine st_i (cc := cX5_nearest) (maxL := 3) (by decide) rfl (Nat.le_of_ble_eq_true rfl) ?_
  intro p e s m args below meth c A Q F hret0 H locs hP hS ls hl
  have F : Cx p s m args c cX5_nearest 3 wsX5_nearest RX5 D (tyL cI cJ) A := F
  have hx := F.1.1
  have hb := F.1.2.1
  have hown := F.1.2.2.2.1
  have hts := F.1.2.2.2.2
  have iX5 : ∀ w ∈ wsX50, w ∈ wsX5_nearest := fun w h => (List.mem_cons_of_mem _ (List.mem_append_right _ h))
  have hret : ∀ (pc : Nat) (H : Heap) (locs : List Loc) (ls : Array Slot) (r' : Int32), some r' = some r → narrow .int (.int r') = .int r' → decode cX5_nearest pc = .ok (.ireturn, 1) → WD D A [(a_z, .inr (5, [.ref a_z_s, .ref a_z_m, .ref a_z_image, .ref a_z_was, .int z_hasImage, .ref a_z_letters, .ref a_z_row, .ref a_z_refused, .int z_letterMany, .int z_rowMany, .int z_reading, .ref a_z_numbers, .int z_seed])), (a_z_s, .inl (cI, 45, .inl z_s))] H → va_S A s.heap H locs → W p l e rmX5_nearest s m args below meth c H locs 0 0 Q (F0 m pc ls [.int r']) := by
    intro pc H locs ls r' h hn hd hP hS
    cases h
    exact hret0 pc H locs ls hn hd hP hS
  have L5 : ∀ (n : Nat) (x1_L5 : Int32) (x2_L5 : Int32) (tt0 : Int32) (H : Heap) (locs : List Loc) (ls : Array Slot), fX5_nearest_L5 g z_s n x1_L5 x2_L5 = some tt0 → WD D A [(a_z, .inr (5, [.ref a_z_s, .ref a_z_m, .ref a_z_image, .ref a_z_was, .int z_hasImage, .ref a_z_letters, .ref a_z_row, .ref a_z_refused, .int z_letterMany, .int z_rowMany, .int z_reading, .ref a_z_numbers, .int z_seed])), (a_z_s, .inl (cI, 45, .inl z_s))] H → va_S A s.heap H locs → lv_has ls 3 [(0, .ref a_z), (1, .int x1_L5), (2, .int x2_L5)] → (∀ (H : Heap) (locs : List Loc) (ls : Array Slot), WD D A [(a_z, .inr (5, [.ref a_z_s, .ref a_z_m, .ref a_z_image, .ref a_z_was, .int z_hasImage, .ref a_z_letters, .ref a_z_row, .ref a_z_refused, .int z_letterMany, .int z_rowMany, .int z_reading, .ref a_z_numbers, .int z_seed])), (a_z_s, .inl (cI, 45, .inl z_s))] H → va_S A s.heap H locs → lv_has ls 3 [(1, .int tt0)] → W p l e rmX5_nearest s m args below meth c H locs 0 0 Q (F0 m 64 ls [])) → W p l e rmX5_nearest s m args below meth c H locs 0 0 Q (F0 m 5 ls []) := by
    intro n
    induction n with
    | zero =>
      intro x1_L5 x2_L5 tt0 H locs ls h
      exact (no_some h).elim
    | succ n ih =>
      intro x1_L5 x2_L5 tt0 H locs ls h hP hS hl kE
      have h : fX5_nearest_L5_b g z_s (fX5_nearest_L5 g z_s n) x1_L5 x2_L5 = some tt0 := h
      unfold fX5_nearest_L5_b at h
      refine lv_iload_n hx hb dX5_nearest_5 rfl (lv_at hl 2 rfl) ?_
      refine lv_aload_n hx hb dX5_nearest_6 rfl (lv_at hl 0 rfl) ?_
      refine gt_X5_9 F iX5 (List.mem_cons_of_mem _ (List.mem_append_left _ (List.mem_of_getElem? (i := 0) rfl))) hP 0 rfl dX5_nearest_7 ?_
      refine lv_iconst (v := 0) hx hb dX5_nearest_10 (by decide) ?_
      refine r_ia F hP 1 rfl (j := 0) rfl (by decide) dX5_nearest_11 ?_
      refine lv_icmp_ge (tgt := 64) hx hb dX5_nearest_12 (by decide) (fun hc2 => ?_) (fun hc2 => ?_)
      · have h := it_p hc2 h
        cases h
        exact kE H locs ls hP hS (lv_sub hl [1] rfl)
      · have h := it_n hc2 h
        refine lv_iload_n hx hb dX5_nearest_15 rfl (lv_at hl 1 rfl) ?_
        refine lv_if_lt (tgt := 56) hx hb dX5_nearest_16 (by decide) (fun hc3 => ?_) (fun hc3 => ?_)
        · have h := it_p hc3 h
          refine lv_iload_n hx hb dX5_nearest_56 rfl (lv_at hl 2 rfl) ?_
          refine lv_istore_n (lv' := [(1, .int x2_L5), (0, .ref a_z), (2, .int x2_L5)]) hx hb dX5_nearest_57 rfl hl (by decide) rfl (fun ls hl => ?_)
          refine lv_iinc (v := x2_L5 + 1) (lv' := [(2, .int (x2_L5 + 1)), (1, .int x2_L5), (0, .ref a_z)]) hx hb dX5_nearest_58 hl (k := 2) rfl rfl (by decide) rfl (fun ls hl => ?_)
          refine lv_goto (tgt := 5) hx hb dX5_nearest_61 (by decide) ?_
          exact ih x2_L5 (x2_L5 + 1) tt0 H locs ls h hP hS (lv_sub hl [2, 1, 0] rfl) kE
        · have h := it_n hc3 h
          refine lv_aload_n hx hb dX5_nearest_19 rfl (lv_at hl 0 rfl) ?_
          refine gt_X5_9 F iX5 (List.mem_cons_of_mem _ (List.mem_append_left _ (List.mem_of_getElem? (i := 0) rfl))) hP 0 rfl dX5_nearest_20 ?_
          refine lv_iconst (v := 3) hx hb dX5_nearest_23 (by decide) ?_
          refine r_ia F hP 1 rfl (j := 3) rfl (by decide) dX5_nearest_24 ?_
          refine lv_aload_n hx hb dX5_nearest_25 rfl (lv_at hl 0 rfl) ?_
          refine gt_X5_9 F iX5 (List.mem_cons_of_mem _ (List.mem_append_left _ (List.mem_of_getElem? (i := 0) rfl))) hP 0 rfl dX5_nearest_26 ?_
          refine lv_iconst (v := 4) hx hb dX5_nearest_29 (by decide) ?_
          refine lv_iload_n hx hb dX5_nearest_30 rfl (lv_at hl 2 rfl) ?_
          refine lv_iadd hx hb dX5_nearest_31 ?_
          obtain ⟨hg4, h⟩ := gd_e h
          refine r_ia F hP 1 rfl rfl hg4 dX5_nearest_32 ?_
          obtain ⟨r5, hk6, h⟩ := bd1_e h
          refine cS_i (rest := []) F (kX5_steps l D cI cJ H.size g (z_s 3) (z_s (4 + x2_L5).toNatClampNeg) r5 hk6) (va_cwS 2 hts gX5_nearest_X5_steps rfl rfl rfl eSX5_steps ⟨Nat.le_of_ble_eq_true rfl, Nat.le_of_ble_eq_true rfl⟩) [] hP hS (by decide) rfl rfl rfl hl.1 (Nat.le_of_ble_eq_true rfl) ⟨Nat.le_refl _, Nat.le_refl _⟩ rfl dX5_nearest_33 (fun H locs hP hS => ?_)
          have hP : WD D A [(a_z, .inr (5, [.ref a_z_s, .ref a_z_m, .ref a_z_image, .ref a_z_was, .int z_hasImage, .ref a_z_letters, .ref a_z_row, .ref a_z_refused, .int z_letterMany, .int z_rowMany, .int z_reading, .ref a_z_numbers, .int z_seed])), (a_z_s, .inl (cI, 45, .inl z_s))] H := hP
          refine lv_aload_n hx hb dX5_nearest_36 rfl (lv_at hl 0 rfl) ?_
          refine gt_X5_9 F iX5 (List.mem_cons_of_mem _ (List.mem_append_left _ (List.mem_of_getElem? (i := 0) rfl))) hP 0 rfl dX5_nearest_37 ?_
          refine lv_iconst (v := 3) hx hb dX5_nearest_40 (by decide) ?_
          refine r_ia F hP 1 rfl (j := 3) rfl (by decide) dX5_nearest_41 ?_
          refine lv_aload_n hx hb dX5_nearest_42 rfl (lv_at hl 0 rfl) ?_
          refine gt_X5_9 F iX5 (List.mem_cons_of_mem _ (List.mem_append_left _ (List.mem_of_getElem? (i := 0) rfl))) hP 0 rfl dX5_nearest_43 ?_
          refine lv_iconst (v := 4) hx hb dX5_nearest_46 (by decide) ?_
          refine lv_iload_n hx hb dX5_nearest_47 rfl (lv_at hl 1 rfl) ?_
          refine lv_iadd hx hb dX5_nearest_48 ?_
          obtain ⟨hg7, h⟩ := gd_e h
          refine r_ia F hP 1 rfl rfl hg7 dX5_nearest_49 ?_
          obtain ⟨r8, hk9, h⟩ := bd1_e h
          refine cS_i (rest := [.int r5]) F (kX5_steps l D cI cJ H.size g (z_s 3) (z_s (4 + x1_L5).toNatClampNeg) r8 hk9) (va_cwS 2 hts gX5_nearest_X5_steps rfl rfl rfl eSX5_steps ⟨Nat.le_of_ble_eq_true rfl, Nat.le_of_ble_eq_true rfl⟩) [] hP hS (by decide) rfl rfl rfl hl.1 (Nat.le_of_ble_eq_true rfl) ⟨Nat.le_refl _, Nat.le_refl _⟩ rfl dX5_nearest_50 (fun H locs hP hS => ?_)
          have hP : WD D A [(a_z, .inr (5, [.ref a_z_s, .ref a_z_m, .ref a_z_image, .ref a_z_was, .int z_hasImage, .ref a_z_letters, .ref a_z_row, .ref a_z_refused, .int z_letterMany, .int z_rowMany, .int z_reading, .ref a_z_numbers, .int z_seed])), (a_z_s, .inl (cI, 45, .inl z_s))] H := hP
          refine lv_icmp_ge (tgt := 58) hx hb dX5_nearest_53 (by decide) (fun hc10 => ?_) (fun hc10 => ?_)
          · have h := it_p hc10 h
            refine lv_iinc (v := x2_L5 + 1) (lv' := [(2, .int (x2_L5 + 1)), (0, .ref a_z), (1, .int x1_L5)]) hx hb dX5_nearest_58 hl (k := 2) rfl rfl (by decide) rfl (fun ls hl => ?_)
            refine lv_goto (tgt := 5) hx hb dX5_nearest_61 (by decide) ?_
            exact ih x1_L5 (x2_L5 + 1) tt0 H locs ls h hP hS (lv_sub hl [1, 2, 0] rfl) kE
          · have h := it_n hc10 h
            refine lv_iload_n hx hb dX5_nearest_56 rfl (lv_at hl 2 rfl) ?_
            refine lv_istore_n (lv' := [(1, .int x2_L5), (0, .ref a_z), (2, .int x2_L5)]) hx hb dX5_nearest_57 rfl hl (by decide) rfl (fun ls hl => ?_)
            refine lv_iinc (v := x2_L5 + 1) (lv' := [(2, .int (x2_L5 + 1)), (1, .int x2_L5), (0, .ref a_z)]) hx hb dX5_nearest_58 hl (k := 2) rfl rfl (by decide) rfl (fun ls hl => ?_)
            refine lv_goto (tgt := 5) hx hb dX5_nearest_61 (by decide) ?_
            exact ih x2_L5 (x2_L5 + 1) tt0 H locs ls h hP hS (lv_sub hl [2, 1, 0] rfl) kE
  have hl : lv_has ls 3 [(0, .ref a_z)] := hl
  have h := hf
  unfold fX5_nearest at h
  refine lv_bipush (v := (-9)) hx hb dX5_nearest_0 (by decide) ?_
  refine lv_istore_n (lv' := [(1, .int (-9)), (0, .ref a_z)]) hx hb dX5_nearest_2 rfl hl (by decide) rfl (fun ls hl => ?_)
  refine lv_iconst (v := 0) hx hb dX5_nearest_3 (by decide) ?_
  refine lv_istore_n (lv' := [(2, .int 0), (1, .int (-9)), (0, .ref a_z)]) hx hb dX5_nearest_4 rfl hl (by decide) rfl (fun ls hl => ?_)
  obtain ⟨t11, hk12, h⟩ := bd1_e h
  refine L5 g (-9) 0 t11 H locs ls hk12 hP hS (lv_sub hl [2, 1, 0] rfl) (fun H locs ls hP hS hl => ?_)
  refine lv_iload_n hx hb dX5_nearest_64 rfl (lv_at hl 0 rfl) ?_
  exact hret 65 H locs ls t11 h rfl dX5_nearest_65 hP hS
theorem eSX5_way : yX5_way.cls ≠ "java/lang/invoke/MethodHandle" ∧ yX5_way.cls ≠ "java/lang/invoke/VarHandle" ∧ (parseMethodDescriptor yX5_way.desc).map (fun d => d.parameters.length) = some 1 := by decide +kernel
theorem eVX5_way : yX5_way.cls = RX5 ∧ yX5_way.cls ≠ "java/lang/invoke/MethodHandle" ∧ yX5_way.cls ≠ "java/lang/invoke/VarHandle" ∧ (parseMethodDescriptor yX5_way.desc).map (fun d => d.parameters.length) = some 1 := ⟨rfl, eSX5_way⟩
abbrev rmX5_way : Room := { frames := 6, cells := 0, slots := 0, locals := 135 }
def fX5_way_L34_b (g : Nat) (x1_L34 : Int32) (self : Int32 → Int32 → (Nat → Int32) → Option (Int32 × (Nat → Int32))) (x3_L34 : Int32) (x4_L34 : Int32) (z_m_L34 : Nat → Int32) : Option (Int32 × (Nat → Int32)) := if x1_L34 ≤ x4_L34 then (some (x3_L34, z_m_L34)) else (bd1 (fX5_day g 0 z_m_L34) fun z_m_17 => (if (z_m_17 3) = (z_m_L34 3) then (self (x3_L34 + 0) (x4_L34 + 1) z_m_17) else (self (x3_L34 + 1) (x4_L34 + 1) z_m_17)))
def fX5_way_L34 (g : Nat) (x1_L34 : Int32) (n : Nat) : Int32 → Int32 → (Nat → Int32) → Option (Int32 × (Nat → Int32)) := lp (fX5_way_L34_b g x1_L34) (fun _ _ _ => none) n
def fX5_way (g : Nat) (p0 : Int32) (z_s : Nat → Int32) (z_m : Nat → Int32) (z_refused : Nat → Int32) : Option (Int32 × (Nat → Int32) × (Nat → Int32)) := bd1 (fX5_wrongBy g p0 1 60) fun r11 => (if r11 = 0 then (bd1 (fX5_copies g z_s z_m) fun z_m_14 => (bd2 (fX5_way_L34 g p0 g 0 0 z_m_14) fun t20 t21 => (some (t20, t21, z_refused)))) else (bd2 (fX5_no g r11 z_refused) fun r24 z_refused_25 => (some (r24, z_m, z_refused_25))))
set_option maxHeartbeats 4000000 in
set_option maxRecDepth 100000 in
theorem kX5_way (l : Launch) (D : va_G) (cI cJ : ClassId) (sz g : Nat) (a_z a_z_s a_z_m a_z_image a_z_was a_z_letters a_z_row a_z_refused a_z_numbers : Nat) (z_hasImage : Int32) (z_letterMany : Int32) (z_rowMany : Int32) (z_reading : Int32) (z_seed : Int32) (z_s : Nat → Int32) (z_m : Nat → Int32) (z_refused : Nat → Int32) (p0 : Int32) (r : Int32) (n_z_m : Nat → Int32) (n_z_refused : Nat → Int32) (hf : fX5_way g p0 z_s z_m z_refused = some (r, n_z_m, n_z_refused)) : Met l yX5_way wsX5_way rmX5_way (va_Pc [.ref a_z, .int p0] (sPc D (tyL cI cJ) [(a_z, .inr (5, [.ref a_z_s, .ref a_z_m, .ref a_z_image, .ref a_z_was, .int z_hasImage, .ref a_z_letters, .ref a_z_row, .ref a_z_refused, .int z_letterMany, .int z_rowMany, .int z_reading, .ref a_z_numbers, .int z_seed])), (a_z_s, .inl (cI, 45, .inl z_s)), (a_z_m, .inl (cI, 45, .inl z_m)), (a_z_refused, .inl (cI, 7, .inl z_refused))] sz)) (qI D (tyL cI cJ) [(a_z, .inr (5, [.ref a_z_s, .ref a_z_m, .ref a_z_image, .ref a_z_was, .int z_hasImage, .ref a_z_letters, .ref a_z_row, .ref a_z_refused, .int z_letterMany, .int z_rowMany, .int z_reading, .ref a_z_numbers, .int z_seed])), (a_z_s, .inl (cI, 45, .inl z_s)), (a_z_m, .inl (cI, 45, .inl z_m)), (a_z_refused, .inl (cI, 7, .inl z_refused))] sz [(a_z, .inr (5, [.ref a_z_s, .ref a_z_m, .ref a_z_image, .ref a_z_was, .int z_hasImage, .ref a_z_letters, .ref a_z_row, .ref a_z_refused, .int z_letterMany, .int z_rowMany, .int z_reading, .ref a_z_numbers, .int z_seed])), (a_z_s, .inl (cI, 45, .inl z_s)), (a_z_m, .inl (cI, 45, .inl n_z_m)), (a_z_refused, .inl (cI, 7, .inl n_z_refused))] r) 0 0 (va_A [(a_z, .inr (5, [.ref a_z_s, .ref a_z_m, .ref a_z_image, .ref a_z_was, .int z_hasImage, .ref a_z_letters, .ref a_z_row, .ref a_z_refused, .int z_letterMany, .int z_rowMany, .int z_reading, .ref a_z_numbers, .int z_seed])), (a_z_s, .inl (cI, 45, .inl z_s)), (a_z_m, .inl (cI, 45, .inl z_m)), (a_z_refused, .inl (cI, 7, .inl z_refused))] sz) := by
  refine st_i (cc := cX5_way) (maxL := 6) (by decide) rfl (Nat.le_of_ble_eq_true rfl) ?_
  intro p e s m args below meth c A Q F hret0 H locs hP hS ls hl
  have F : Cx p s m args c cX5_way 6 wsX5_way RX5 D (tyL cI cJ) A := F
  have hx := F.1.1
  have hb := F.1.2.1
  have hown := F.1.2.2.2.1
  have hts := F.1.2.2.2.2
  have iX5 : ∀ w ∈ wsX50, w ∈ wsX5_way := fun w h => (List.mem_cons_of_mem _ (List.mem_append_right _ h))
  have hret : ∀ (pc : Nat) (H : Heap) (locs : List Loc) (ls : Array Slot) (r' : Int32) (m_z_m : Nat → Int32) (m_z_refused : Nat → Int32), some (r', m_z_m, m_z_refused) = some (r, n_z_m, n_z_refused) → narrow .int (.int r') = .int r' → decode cX5_way pc = .ok (.ireturn, 1) → WD D A [(a_z, .inr (5, [.ref a_z_s, .ref a_z_m, .ref a_z_image, .ref a_z_was, .int z_hasImage, .ref a_z_letters, .ref a_z_row, .ref a_z_refused, .int z_letterMany, .int z_rowMany, .int z_reading, .ref a_z_numbers, .int z_seed])), (a_z_s, .inl (cI, 45, .inl z_s)), (a_z_m, .inl (cI, 45, .inl m_z_m)), (a_z_refused, .inl (cI, 7, .inl m_z_refused))] H → va_S A s.heap H locs → W p l e rmX5_way s m args below meth c H locs 0 0 Q (F0 m pc ls [.int r']) := by
    intro pc H locs ls r' m_z_m m_z_refused h hn hd hP hS
    cases h
    exact hret0 pc H locs ls hn hd hP hS
  have L34 : ∀ (x1_L34 : Int32) (z_refused_L34 : Nat → Int32) (n : Nat) (x3_L34 : Int32) (x4_L34 : Int32) (z_m_L34 : Nat → Int32) (tt0 : Int32) (tt1 : Nat → Int32) (H : Heap) (locs : List Loc) (ls : Array Slot), fX5_way_L34 g x1_L34 n x3_L34 x4_L34 z_m_L34 = some (tt0, tt1) → WD D A [(a_z, .inr (5, [.ref a_z_s, .ref a_z_m, .ref a_z_image, .ref a_z_was, .int z_hasImage, .ref a_z_letters, .ref a_z_row, .ref a_z_refused, .int z_letterMany, .int z_rowMany, .int z_reading, .ref a_z_numbers, .int z_seed])), (a_z_s, .inl (cI, 45, .inl z_s)), (a_z_m, .inl (cI, 45, .inl z_m_L34)), (a_z_refused, .inl (cI, 7, .inl z_refused_L34))] H → va_S A s.heap H locs → lv_has ls 6 [(0, .ref a_z), (1, .int x1_L34), (3, .int x3_L34), (4, .int x4_L34)] → (∀ (H : Heap) (locs : List Loc) (ls : Array Slot), WD D A [(a_z, .inr (5, [.ref a_z_s, .ref a_z_m, .ref a_z_image, .ref a_z_was, .int z_hasImage, .ref a_z_letters, .ref a_z_row, .ref a_z_refused, .int z_letterMany, .int z_rowMany, .int z_reading, .ref a_z_numbers, .int z_seed])), (a_z_s, .inl (cI, 45, .inl z_s)), (a_z_m, .inl (cI, 45, .inl tt1)), (a_z_refused, .inl (cI, 7, .inl z_refused_L34))] H → va_S A s.heap H locs → lv_has ls 6 [(3, .int tt0)] → W p l e rmX5_way s m args below meth c H locs 0 0 Q (F0 m 81 ls [])) → W p l e rmX5_way s m args below meth c H locs 0 0 Q (F0 m 34 ls []) := by
    intro x1_L34 z_refused_L34 n
    induction n with
    | zero =>
      intro x3_L34 x4_L34 z_m_L34 tt0 tt1 H locs ls h
      exact (no_some h).elim
    | succ n ih =>
      intro x3_L34 x4_L34 z_m_L34 tt0 tt1 H locs ls h hP hS hl kE
      have h : fX5_way_L34_b g x1_L34 (fX5_way_L34 g x1_L34 n) x3_L34 x4_L34 z_m_L34 = some (tt0, tt1) := h
      unfold fX5_way_L34_b at h
      refine lv_iload hx hb dX5_way_34 (lv_at hl 3 rfl) ?_
      refine lv_iload_n hx hb dX5_way_36 rfl (lv_at hl 1 rfl) ?_
      refine lv_icmp_ge (tgt := 81) hx hb dX5_way_37 (by decide) (fun hc16 => ?_) (fun hc16 => ?_)
      · have h := it_p hc16 h
        cases h
        exact kE H locs ls hP hS (lv_sub hl [2] rfl)
      · have h := it_n hc16 h
        refine lv_aload_n hx hb dX5_way_40 rfl (lv_at hl 0 rfl) ?_
        refine gt_X5_13 F iX5 (List.mem_cons_of_mem _ (List.mem_append_left _ (List.mem_append_left _ (List.mem_of_getElem? (i := 1) rfl)))) hP 0 rfl dX5_way_41 ?_
        refine lv_iconst (v := 3) hx hb dX5_way_44 (by decide) ?_
        refine r_ia F hP 2 rfl (j := 3) rfl (by decide) dX5_way_45 ?_
        refine lv_istore (lv' := [(5, .int (z_m_L34 3)), (0, .ref a_z), (1, .int x1_L34), (3, .int x3_L34), (4, .int x4_L34)]) hx hb dX5_way_46 hl (by decide) rfl (fun ls hl => ?_)
        refine lv_aload_n hx hb dX5_way_48 rfl (lv_at hl 1 rfl) ?_
        refine gt_X5_13 F iX5 (List.mem_cons_of_mem _ (List.mem_append_left _ (List.mem_append_left _ (List.mem_of_getElem? (i := 1) rfl)))) hP 0 rfl dX5_way_49 ?_
        refine lv_iconst (v := 0) hx hb dX5_way_52 (by decide) ?_
        obtain ⟨z_m_17, hk18, h⟩ := bd1_e h
        refine cS_v (rest := []) F (kX5_day l D cI cJ H.size g a_z_m z_m_L34 0 z_m_17 hk18) (va_cwS 2 hts gX5_way_X5_day rfl rfl rfl eSX5_day ⟨Nat.le_of_ble_eq_true rfl, Nat.le_of_ble_eq_true rfl⟩) [2] hP hS (by decide) rfl rfl rfl hl.1 (Nat.le_of_ble_eq_true rfl) ⟨Nat.le_refl _, Nat.le_refl _⟩ rfl dX5_way_53 (fun H locs hP hS => ?_)
        have hP : WD D A [(a_z, .inr (5, [.ref a_z_s, .ref a_z_m, .ref a_z_image, .ref a_z_was, .int z_hasImage, .ref a_z_letters, .ref a_z_row, .ref a_z_refused, .int z_letterMany, .int z_rowMany, .int z_reading, .ref a_z_numbers, .int z_seed])), (a_z_s, .inl (cI, 45, .inl z_s)), (a_z_m, .inl (cI, 45, .inl z_m_17)), (a_z_refused, .inl (cI, 7, .inl z_refused_L34))] H := hP
        refine lv_iload_n hx hb dX5_way_56 rfl (lv_at hl 3 rfl) ?_
        refine lv_aload_n hx hb dX5_way_57 rfl (lv_at hl 1 rfl) ?_
        refine gt_X5_13 F iX5 (List.mem_cons_of_mem _ (List.mem_append_left _ (List.mem_append_left _ (List.mem_of_getElem? (i := 1) rfl)))) hP 0 rfl dX5_way_58 ?_
        refine lv_iconst (v := 3) hx hb dX5_way_61 (by decide) ?_
        refine r_ia F hP 2 rfl (j := 3) rfl (by decide) dX5_way_62 ?_
        refine lv_iload hx hb dX5_way_63 (lv_at hl 0 rfl) ?_
        refine lv_icmp_ne (tgt := 72) hx hb dX5_way_65 (by decide) (fun hc19 => ?_) (fun hc19 => ?_)
        · have h := it_n hc19 h
          refine lv_iconst (v := 1) hx hb dX5_way_72 (by decide) ?_
          refine lv_iadd hx hb dX5_way_73 ?_
          refine lv_istore_n (lv' := [(3, .int (x3_L34 + 1)), (5, .int (z_m_L34 3)), (0, .ref a_z), (1, .int x1_L34), (4, .int x4_L34)]) hx hb dX5_way_74 rfl hl (by decide) rfl (fun ls hl => ?_)
          refine lv_iinc (v := x4_L34 + 1) (lv' := [(4, .int (x4_L34 + 1)), (3, .int (x3_L34 + 1)), (5, .int (z_m_L34 3)), (0, .ref a_z), (1, .int x1_L34)]) hx hb dX5_way_75 hl (k := 4) rfl rfl (by decide) rfl (fun ls hl => ?_)
          refine lv_goto (tgt := 34) hx hb dX5_way_78 (by decide) ?_
          exact ih (x3_L34 + 1) (x4_L34 + 1) z_m_17 tt0 tt1 H locs ls h hP hS (lv_sub hl [3, 4, 1, 0] rfl) kE
        · have h := it_p hc19 h
          refine lv_iconst (v := 0) hx hb dX5_way_68 (by decide) ?_
          refine lv_goto (tgt := 73) hx hb dX5_way_69 (by decide) ?_
          refine lv_iadd hx hb dX5_way_73 ?_
          refine lv_istore_n (lv' := [(3, .int (x3_L34 + 0)), (5, .int (z_m_L34 3)), (0, .ref a_z), (1, .int x1_L34), (4, .int x4_L34)]) hx hb dX5_way_74 rfl hl (by decide) rfl (fun ls hl => ?_)
          refine lv_iinc (v := x4_L34 + 1) (lv' := [(4, .int (x4_L34 + 1)), (3, .int (x3_L34 + 0)), (5, .int (z_m_L34 3)), (0, .ref a_z), (1, .int x1_L34)]) hx hb dX5_way_75 hl (k := 4) rfl rfl (by decide) rfl (fun ls hl => ?_)
          refine lv_goto (tgt := 34) hx hb dX5_way_78 (by decide) ?_
          exact ih (x3_L34 + 0) (x4_L34 + 1) z_m_17 tt0 tt1 H locs ls h hP hS (lv_sub hl [3, 4, 1, 0] rfl) kE
  have hl : lv_has ls 6 [(0, .ref a_z), (1, .int p0)] := hl
  have h := hf
  unfold fX5_way at h
  refine lv_iload_n hx hb dX5_way_0 rfl (lv_at hl 1 rfl) ?_
  refine lv_iconst (v := 1) hx hb dX5_way_1 (by decide) ?_
  refine lv_bipush (v := 60) hx hb dX5_way_2 (by decide) ?_
  obtain ⟨r11, hk12, h⟩ := bd1_e h
  refine cS_i (rest := []) F (kX5_wrongBy l D cI cJ H.size g p0 1 60 r11 hk12) (va_cwS 3 hts gX5_way_X5_wrongBy rfl rfl rfl eSX5_wrongBy ⟨Nat.le_of_ble_eq_true rfl, Nat.le_of_ble_eq_true rfl⟩) [] hP hS (by decide) rfl rfl rfl hl.1 (Nat.le_of_ble_eq_true rfl) ⟨Nat.le_refl _, Nat.le_refl _⟩ rfl dX5_way_4 (fun H locs hP hS => ?_)
  have hP : WD D A [(a_z, .inr (5, [.ref a_z_s, .ref a_z_m, .ref a_z_image, .ref a_z_was, .int z_hasImage, .ref a_z_letters, .ref a_z_row, .ref a_z_refused, .int z_letterMany, .int z_rowMany, .int z_reading, .ref a_z_numbers, .int z_seed])), (a_z_s, .inl (cI, 45, .inl z_s)), (a_z_m, .inl (cI, 45, .inl z_m)), (a_z_refused, .inl (cI, 7, .inl z_refused))] H := hP
  refine lv_istore_n (lv' := [(2, .int r11), (0, .ref a_z), (1, .int p0)]) hx hb dX5_way_7 rfl hl (by decide) rfl (fun ls hl => ?_)
  refine lv_iload_n hx hb dX5_way_8 rfl (lv_at hl 0 rfl) ?_
  refine lv_if_eq (tgt := 18) hx hb dX5_way_9 (by decide) (fun hc13 => ?_) (fun hc13 => ?_)
  · have h := it_p hc13 h
    refine lv_aload_n hx hb dX5_way_18 rfl (lv_at hl 1 rfl) ?_
    refine gt_X5_9 F iX5 (List.mem_cons_of_mem _ (List.mem_append_left _ (List.mem_append_left _ (List.mem_of_getElem? (i := 0) rfl)))) hP 0 rfl dX5_way_19 ?_
    refine lv_aload_n hx hb dX5_way_22 rfl (lv_at hl 1 rfl) ?_
    refine gt_X5_13 F iX5 (List.mem_cons_of_mem _ (List.mem_append_left _ (List.mem_append_left _ (List.mem_of_getElem? (i := 1) rfl)))) hP 0 rfl dX5_way_23 ?_
    obtain ⟨z_m_14, hk15, h⟩ := bd1_e h
    refine cS_v (rest := []) F (kX5_copies l D cI cJ H.size g a_z_s a_z_m z_s z_m z_m_14 hk15) (va_cwS 2 hts gX5_way_X5_copies rfl rfl rfl eSX5_copies ⟨Nat.le_of_ble_eq_true rfl, Nat.le_of_ble_eq_true rfl⟩) [1, 2] hP hS (by decide) rfl rfl rfl hl.1 (Nat.le_of_ble_eq_true rfl) ⟨Nat.le_refl _, Nat.le_refl _⟩ rfl dX5_way_26 (fun H locs hP hS => ?_)
    have hP : WD D A [(a_z, .inr (5, [.ref a_z_s, .ref a_z_m, .ref a_z_image, .ref a_z_was, .int z_hasImage, .ref a_z_letters, .ref a_z_row, .ref a_z_refused, .int z_letterMany, .int z_rowMany, .int z_reading, .ref a_z_numbers, .int z_seed])), (a_z_s, .inl (cI, 45, .inl z_s)), (a_z_m, .inl (cI, 45, .inl z_m_14)), (a_z_refused, .inl (cI, 7, .inl z_refused))] H := hP
    refine lv_iconst (v := 0) hx hb dX5_way_29 (by decide) ?_
    refine lv_istore_n (lv' := [(3, .int 0), (2, .int r11), (0, .ref a_z), (1, .int p0)]) hx hb dX5_way_30 rfl hl (by decide) rfl (fun ls hl => ?_)
    refine lv_iconst (v := 0) hx hb dX5_way_31 (by decide) ?_
    refine lv_istore (lv' := [(4, .int 0), (3, .int 0), (2, .int r11), (0, .ref a_z), (1, .int p0)]) hx hb dX5_way_32 hl (by decide) rfl (fun ls hl => ?_)
    obtain ⟨t20, t21, hk22, h⟩ := bd2_e h
    refine L34 p0 z_refused g 0 0 z_m_14 t20 t21 H locs ls hk22 hP hS (lv_sub hl [3, 4, 1, 0] rfl) (fun H locs ls hP hS hl => ?_)
    refine lv_iload_n hx hb dX5_way_81 rfl (lv_at hl 0 rfl) ?_
    exact hret 82 H locs ls t20 t21 z_refused h rfl dX5_way_82 hP hS
  · have h := it_n hc13 h
    refine lv_aload_n hx hb dX5_way_12 rfl (lv_at hl 1 rfl) ?_
    refine lv_iload_n hx hb dX5_way_13 rfl (lv_at hl 0 rfl) ?_
    obtain ⟨r24, z_refused_25, hk26, h⟩ := bd2_e h
    refine cV_i (rest := []) F (kX5_no l D cI cJ H.size g a_z a_z_s a_z_m a_z_image a_z_was a_z_letters a_z_row a_z_refused a_z_numbers z_hasImage z_letterMany z_rowMany z_reading z_seed z_refused r11 r24 z_refused_25 hk26) (cwV 1 hts gX5_way_X5_no rfl rfl rfl eVX5_no ⟨Nat.le_of_ble_eq_true rfl, Nat.le_of_ble_eq_true rfl⟩) [0, 3] hP hS (by decide) rfl rfl 0 rfl rfl rfl hl.1 (Nat.le_of_ble_eq_true rfl) ⟨Nat.le_refl _, Nat.le_refl _⟩ rfl dX5_way_14 (fun H locs hP hS => ?_)
    have hP : WD D A [(a_z, .inr (5, [.ref a_z_s, .ref a_z_m, .ref a_z_image, .ref a_z_was, .int z_hasImage, .ref a_z_letters, .ref a_z_row, .ref a_z_refused, .int z_letterMany, .int z_rowMany, .int z_reading, .ref a_z_numbers, .int z_seed])), (a_z_s, .inl (cI, 45, .inl z_s)), (a_z_m, .inl (cI, 45, .inl z_m)), (a_z_refused, .inl (cI, 7, .inl z_refused_25))] H := hP
    exact hret 17 H locs ls r24 z_m z_refused_25 h rfl dX5_way_17 hP hS
theorem eSX5_offBy : yX5_offBy.cls ≠ "java/lang/invoke/MethodHandle" ∧ yX5_offBy.cls ≠ "java/lang/invoke/VarHandle" ∧ (parseMethodDescriptor yX5_offBy.desc).map (fun d => d.parameters.length) = some 6 := by decide +kernel
theorem eVX5_offBy : yX5_offBy.cls = RX5 ∧ yX5_offBy.cls ≠ "java/lang/invoke/MethodHandle" ∧ yX5_offBy.cls ≠ "java/lang/invoke/VarHandle" ∧ (parseMethodDescriptor yX5_offBy.desc).map (fun d => d.parameters.length) = some 6 := ⟨rfl, eSX5_offBy⟩
abbrev rmX5_offBy : Room := { frames := 7, cells := 0, slots := 0, locals := 157 }
def fX5_offBy (g : Nat) (p0 : Int32) (p1 : Int32) (p2 : Int32) (p3 : Int32) (p4 : Int32) (p5 : Int32) (z_s : Nat → Int32) (z_m : Nat → Int32) : Option (Int32 × (Nat → Int32)) := bd1 (fX5_copies g z_s z_m) fun z_m_36 => (if p2 = 1 then (bd1 (fX5_dropsIn g p1 z_m_36) fun z_m_54 => (if p4 = 1 then (bd1 (fX5_dropsIn g p3 z_m_54) fun z_m_63 => (bd1 (fX5_daysOn g p5 z_m_63) fun z_m_65 => (bd1 (fX5_cellOf g p0 z_m_65) fun r67 => (bd1 (fX5_steps g (z_m_65 3) r67) fun r69 => (some (r69, z_m_65)))))) else (bd1 (fX5_daysOn g p5 z_m_54) fun z_m_57 => (bd1 (fX5_cellOf g p0 z_m_57) fun r59 => (bd1 (fX5_steps g (z_m_57 3) r59) fun r61 => (some (r61, z_m_57))))))) else (if p4 = 1 then (bd1 (fX5_dropsIn g p3 z_m_36) fun z_m_46 => (bd1 (fX5_daysOn g p5 z_m_46) fun z_m_48 => (bd1 (fX5_cellOf g p0 z_m_48) fun r50 => (bd1 (fX5_steps g (z_m_48 3) r50) fun r52 => (some (r52, z_m_48)))))) else (bd1 (fX5_daysOn g p5 z_m_36) fun z_m_40 => (bd1 (fX5_cellOf g p0 z_m_40) fun r42 => (bd1 (fX5_steps g (z_m_40 3) r42) fun r44 => (some (r44, z_m_40)))))))
set_option maxHeartbeats 4000000 in
set_option maxRecDepth 100000 in
theorem kX5_offBy (l : Launch) (D : va_G) (cI cJ : ClassId) (sz g : Nat) (a_z a_z_s a_z_m a_z_image a_z_was a_z_letters a_z_row a_z_refused a_z_numbers : Nat) (z_hasImage : Int32) (z_letterMany : Int32) (z_rowMany : Int32) (z_reading : Int32) (z_seed : Int32) (z_s : Nat → Int32) (z_m : Nat → Int32) (p0 : Int32) (p1 : Int32) (p2 : Int32) (p3 : Int32) (p4 : Int32) (p5 : Int32) (r : Int32) (n_z_m : Nat → Int32) (hf : fX5_offBy g p0 p1 p2 p3 p4 p5 z_s z_m = some (r, n_z_m)) : Met l yX5_offBy wsX5_offBy rmX5_offBy (va_Pc [.ref a_z, .int p0, .int p1, .int p2, .int p3, .int p4, .int p5] (sPc D (tyL cI cJ) [(a_z, .inr (5, [.ref a_z_s, .ref a_z_m, .ref a_z_image, .ref a_z_was, .int z_hasImage, .ref a_z_letters, .ref a_z_row, .ref a_z_refused, .int z_letterMany, .int z_rowMany, .int z_reading, .ref a_z_numbers, .int z_seed])), (a_z_s, .inl (cI, 45, .inl z_s)), (a_z_m, .inl (cI, 45, .inl z_m))] sz)) (qI D (tyL cI cJ) [(a_z, .inr (5, [.ref a_z_s, .ref a_z_m, .ref a_z_image, .ref a_z_was, .int z_hasImage, .ref a_z_letters, .ref a_z_row, .ref a_z_refused, .int z_letterMany, .int z_rowMany, .int z_reading, .ref a_z_numbers, .int z_seed])), (a_z_s, .inl (cI, 45, .inl z_s)), (a_z_m, .inl (cI, 45, .inl z_m))] sz [(a_z, .inr (5, [.ref a_z_s, .ref a_z_m, .ref a_z_image, .ref a_z_was, .int z_hasImage, .ref a_z_letters, .ref a_z_row, .ref a_z_refused, .int z_letterMany, .int z_rowMany, .int z_reading, .ref a_z_numbers, .int z_seed])), (a_z_s, .inl (cI, 45, .inl z_s)), (a_z_m, .inl (cI, 45, .inl n_z_m))] r) 0 0 (va_A [(a_z, .inr (5, [.ref a_z_s, .ref a_z_m, .ref a_z_image, .ref a_z_was, .int z_hasImage, .ref a_z_letters, .ref a_z_row, .ref a_z_refused, .int z_letterMany, .int z_rowMany, .int z_reading, .ref a_z_numbers, .int z_seed])), (a_z_s, .inl (cI, 45, .inl z_s)), (a_z_m, .inl (cI, 45, .inl z_m))] sz) := by
  refine st_i (cc := cX5_offBy) (maxL := 7) (by decide) rfl (Nat.le_of_ble_eq_true rfl) ?_
  intro p e s m args below meth c A Q F hret0 H locs hP hS ls hl
  have F : Cx p s m args c cX5_offBy 7 wsX5_offBy RX5 D (tyL cI cJ) A := F
  have hx := F.1.1
  have hb := F.1.2.1
  have hown := F.1.2.2.2.1
  have hts := F.1.2.2.2.2
  have iX5 : ∀ w ∈ wsX50, w ∈ wsX5_offBy := fun w h => (List.mem_cons_of_mem _ (List.mem_append_right _ h))
  have hret : ∀ (pc : Nat) (H : Heap) (locs : List Loc) (ls : Array Slot) (r' : Int32) (m_z_m : Nat → Int32), some (r', m_z_m) = some (r, n_z_m) → narrow .int (.int r') = .int r' → decode cX5_offBy pc = .ok (.ireturn, 1) → WD D A [(a_z, .inr (5, [.ref a_z_s, .ref a_z_m, .ref a_z_image, .ref a_z_was, .int z_hasImage, .ref a_z_letters, .ref a_z_row, .ref a_z_refused, .int z_letterMany, .int z_rowMany, .int z_reading, .ref a_z_numbers, .int z_seed])), (a_z_s, .inl (cI, 45, .inl z_s)), (a_z_m, .inl (cI, 45, .inl m_z_m))] H → va_S A s.heap H locs → W p l e rmX5_offBy s m args below meth c H locs 0 0 Q (F0 m pc ls [.int r']) := by
    intro pc H locs ls r' m_z_m h hn hd hP hS
    cases h
    exact hret0 pc H locs ls hn hd hP hS
  have hl : lv_has ls 7 [(0, .ref a_z), (1, .int p0), (2, .int p1), (3, .int p2), (4, .int p3), (5, .int p4), (6, .int p5)] := hl
  have h := hf
  unfold fX5_offBy at h
  refine lv_aload_n hx hb dX5_offBy_0 rfl (lv_at hl 0 rfl) ?_
  refine gt_X5_9 F iX5 (List.mem_cons_of_mem _ (List.mem_append_left _ (List.mem_append_left _ (List.mem_of_getElem? (i := 0) rfl)))) hP 0 rfl dX5_offBy_1 ?_
  refine lv_aload_n hx hb dX5_offBy_4 rfl (lv_at hl 0 rfl) ?_
  refine gt_X5_13 F iX5 (List.mem_cons_of_mem _ (List.mem_append_left _ (List.mem_append_left _ (List.mem_of_getElem? (i := 1) rfl)))) hP 0 rfl dX5_offBy_5 ?_
  obtain ⟨z_m_36, hk37, h⟩ := bd1_e h
  refine cS_v (rest := []) F (kX5_copies l D cI cJ H.size g a_z_s a_z_m z_s z_m z_m_36 hk37) (va_cwS 2 hts gX5_offBy_X5_copies rfl rfl rfl eSX5_copies ⟨Nat.le_of_ble_eq_true rfl, Nat.le_of_ble_eq_true rfl⟩) [1, 2] hP hS (by decide) rfl rfl rfl hl.1 (Nat.le_of_ble_eq_true rfl) ⟨Nat.le_refl _, Nat.le_refl _⟩ rfl dX5_offBy_8 (fun H locs hP hS => ?_)
  have hP : WD D A [(a_z, .inr (5, [.ref a_z_s, .ref a_z_m, .ref a_z_image, .ref a_z_was, .int z_hasImage, .ref a_z_letters, .ref a_z_row, .ref a_z_refused, .int z_letterMany, .int z_rowMany, .int z_reading, .ref a_z_numbers, .int z_seed])), (a_z_s, .inl (cI, 45, .inl z_s)), (a_z_m, .inl (cI, 45, .inl z_m_36))] H := hP
  refine lv_iload_n hx hb dX5_offBy_11 rfl (lv_at hl 3 rfl) ?_
  refine lv_iconst (v := 1) hx hb dX5_offBy_12 (by decide) ?_
  refine lv_icmp_ne (tgt := 24) hx hb dX5_offBy_13 (by decide) (fun hc38 => ?_) (fun hc38 => ?_)
  · have h := it_n hc38 h
    refine lv_iload hx hb dX5_offBy_24 (lv_at hl 5 rfl) ?_
    refine lv_iconst (v := 1) hx hb dX5_offBy_26 (by decide) ?_
    refine lv_icmp_ne (tgt := 39) hx hb dX5_offBy_27 (by decide) (fun hc39 => ?_) (fun hc39 => ?_)
    · have h := it_n hc39 h
      refine lv_aload_n hx hb dX5_offBy_39 rfl (lv_at hl 0 rfl) ?_
      refine gt_X5_13 F iX5 (List.mem_cons_of_mem _ (List.mem_append_left _ (List.mem_append_left _ (List.mem_of_getElem? (i := 1) rfl)))) hP 0 rfl dX5_offBy_40 ?_
      refine lv_iload hx hb dX5_offBy_43 (lv_at hl 6 rfl) ?_
      obtain ⟨z_m_40, hk41, h⟩ := bd1_e h
      refine cS_v (rest := []) F (kX5_daysOn l D cI cJ H.size g a_z_m z_m_36 p5 z_m_40 hk41) (va_cwS 2 hts gX5_offBy_X5_daysOn rfl rfl rfl eSX5_daysOn ⟨Nat.le_of_ble_eq_true rfl, Nat.le_of_ble_eq_true rfl⟩) [2] hP hS (by decide) rfl rfl rfl hl.1 (Nat.le_of_ble_eq_true rfl) ⟨Nat.le_refl _, Nat.le_refl _⟩ rfl dX5_offBy_45 (fun H locs hP hS => ?_)
      have hP : WD D A [(a_z, .inr (5, [.ref a_z_s, .ref a_z_m, .ref a_z_image, .ref a_z_was, .int z_hasImage, .ref a_z_letters, .ref a_z_row, .ref a_z_refused, .int z_letterMany, .int z_rowMany, .int z_reading, .ref a_z_numbers, .int z_seed])), (a_z_s, .inl (cI, 45, .inl z_s)), (a_z_m, .inl (cI, 45, .inl z_m_40))] H := hP
      refine lv_aload_n hx hb dX5_offBy_48 rfl (lv_at hl 0 rfl) ?_
      refine gt_X5_13 F iX5 (List.mem_cons_of_mem _ (List.mem_append_left _ (List.mem_append_left _ (List.mem_of_getElem? (i := 1) rfl)))) hP 0 rfl dX5_offBy_49 ?_
      refine lv_iconst (v := 3) hx hb dX5_offBy_52 (by decide) ?_
      refine r_ia F hP 2 rfl (j := 3) rfl (by decide) dX5_offBy_53 ?_
      refine lv_aload_n hx hb dX5_offBy_54 rfl (lv_at hl 0 rfl) ?_
      refine gt_X5_13 F iX5 (List.mem_cons_of_mem _ (List.mem_append_left _ (List.mem_append_left _ (List.mem_of_getElem? (i := 1) rfl)))) hP 0 rfl dX5_offBy_55 ?_
      refine lv_iload_n hx hb dX5_offBy_58 rfl (lv_at hl 1 rfl) ?_
      obtain ⟨r42, hk43, h⟩ := bd1_e h
      refine cS_i (rest := [.int (z_m_40 3)]) F (kX5_cellOf l D cI cJ H.size g a_z_m z_m_40 p0 r42 hk43) (va_cwS 2 hts gX5_offBy_X5_cellOf rfl rfl rfl eSX5_cellOf ⟨Nat.le_of_ble_eq_true rfl, Nat.le_of_ble_eq_true rfl⟩) [2] hP hS (by decide) rfl rfl rfl hl.1 (Nat.le_of_ble_eq_true rfl) ⟨Nat.le_refl _, Nat.le_refl _⟩ rfl dX5_offBy_59 (fun H locs hP hS => ?_)
      have hP : WD D A [(a_z, .inr (5, [.ref a_z_s, .ref a_z_m, .ref a_z_image, .ref a_z_was, .int z_hasImage, .ref a_z_letters, .ref a_z_row, .ref a_z_refused, .int z_letterMany, .int z_rowMany, .int z_reading, .ref a_z_numbers, .int z_seed])), (a_z_s, .inl (cI, 45, .inl z_s)), (a_z_m, .inl (cI, 45, .inl z_m_40))] H := hP
      obtain ⟨r44, hk45, h⟩ := bd1_e h
      refine cS_i (rest := []) F (kX5_steps l D cI cJ H.size g (z_m_40 3) r42 r44 hk45) (va_cwS 2 hts gX5_offBy_X5_steps rfl rfl rfl eSX5_steps ⟨Nat.le_of_ble_eq_true rfl, Nat.le_of_ble_eq_true rfl⟩) [] hP hS (by decide) rfl rfl rfl hl.1 (Nat.le_of_ble_eq_true rfl) ⟨Nat.le_refl _, Nat.le_refl _⟩ rfl dX5_offBy_62 (fun H locs hP hS => ?_)
      have hP : WD D A [(a_z, .inr (5, [.ref a_z_s, .ref a_z_m, .ref a_z_image, .ref a_z_was, .int z_hasImage, .ref a_z_letters, .ref a_z_row, .ref a_z_refused, .int z_letterMany, .int z_rowMany, .int z_reading, .ref a_z_numbers, .int z_seed])), (a_z_s, .inl (cI, 45, .inl z_s)), (a_z_m, .inl (cI, 45, .inl z_m_40))] H := hP
      exact hret 65 H locs ls r44 z_m_40 h rfl dX5_offBy_65 hP hS
    · have h := it_p hc39 h
      refine lv_aload_n hx hb dX5_offBy_30 rfl (lv_at hl 0 rfl) ?_
      refine gt_X5_13 F iX5 (List.mem_cons_of_mem _ (List.mem_append_left _ (List.mem_append_left _ (List.mem_of_getElem? (i := 1) rfl)))) hP 0 rfl dX5_offBy_31 ?_
      refine lv_iload hx hb dX5_offBy_34 (lv_at hl 4 rfl) ?_
      obtain ⟨z_m_46, hk47, h⟩ := bd1_e h
      refine cS_v (rest := []) F (kX5_dropsIn l D cI cJ H.size g a_z_m z_m_36 p3 z_m_46 hk47) (va_cwS 2 hts gX5_offBy_X5_dropsIn rfl rfl rfl eSX5_dropsIn ⟨Nat.le_of_ble_eq_true rfl, Nat.le_of_ble_eq_true rfl⟩) [2] hP hS (by decide) rfl rfl rfl hl.1 (Nat.le_of_ble_eq_true rfl) ⟨Nat.le_refl _, Nat.le_refl _⟩ rfl dX5_offBy_36 (fun H locs hP hS => ?_)
      have hP : WD D A [(a_z, .inr (5, [.ref a_z_s, .ref a_z_m, .ref a_z_image, .ref a_z_was, .int z_hasImage, .ref a_z_letters, .ref a_z_row, .ref a_z_refused, .int z_letterMany, .int z_rowMany, .int z_reading, .ref a_z_numbers, .int z_seed])), (a_z_s, .inl (cI, 45, .inl z_s)), (a_z_m, .inl (cI, 45, .inl z_m_46))] H := hP
      refine lv_aload_n hx hb dX5_offBy_39 rfl (lv_at hl 0 rfl) ?_
      refine gt_X5_13 F iX5 (List.mem_cons_of_mem _ (List.mem_append_left _ (List.mem_append_left _ (List.mem_of_getElem? (i := 1) rfl)))) hP 0 rfl dX5_offBy_40 ?_
      refine lv_iload hx hb dX5_offBy_43 (lv_at hl 6 rfl) ?_
      obtain ⟨z_m_48, hk49, h⟩ := bd1_e h
      refine cS_v (rest := []) F (kX5_daysOn l D cI cJ H.size g a_z_m z_m_46 p5 z_m_48 hk49) (va_cwS 2 hts gX5_offBy_X5_daysOn rfl rfl rfl eSX5_daysOn ⟨Nat.le_of_ble_eq_true rfl, Nat.le_of_ble_eq_true rfl⟩) [2] hP hS (by decide) rfl rfl rfl hl.1 (Nat.le_of_ble_eq_true rfl) ⟨Nat.le_refl _, Nat.le_refl _⟩ rfl dX5_offBy_45 (fun H locs hP hS => ?_)
      have hP : WD D A [(a_z, .inr (5, [.ref a_z_s, .ref a_z_m, .ref a_z_image, .ref a_z_was, .int z_hasImage, .ref a_z_letters, .ref a_z_row, .ref a_z_refused, .int z_letterMany, .int z_rowMany, .int z_reading, .ref a_z_numbers, .int z_seed])), (a_z_s, .inl (cI, 45, .inl z_s)), (a_z_m, .inl (cI, 45, .inl z_m_48))] H := hP
      refine lv_aload_n hx hb dX5_offBy_48 rfl (lv_at hl 0 rfl) ?_
      refine gt_X5_13 F iX5 (List.mem_cons_of_mem _ (List.mem_append_left _ (List.mem_append_left _ (List.mem_of_getElem? (i := 1) rfl)))) hP 0 rfl dX5_offBy_49 ?_
      refine lv_iconst (v := 3) hx hb dX5_offBy_52 (by decide) ?_
      refine r_ia F hP 2 rfl (j := 3) rfl (by decide) dX5_offBy_53 ?_
      refine lv_aload_n hx hb dX5_offBy_54 rfl (lv_at hl 0 rfl) ?_
      refine gt_X5_13 F iX5 (List.mem_cons_of_mem _ (List.mem_append_left _ (List.mem_append_left _ (List.mem_of_getElem? (i := 1) rfl)))) hP 0 rfl dX5_offBy_55 ?_
      refine lv_iload_n hx hb dX5_offBy_58 rfl (lv_at hl 1 rfl) ?_
      obtain ⟨r50, hk51, h⟩ := bd1_e h
      refine cS_i (rest := [.int (z_m_48 3)]) F (kX5_cellOf l D cI cJ H.size g a_z_m z_m_48 p0 r50 hk51) (va_cwS 2 hts gX5_offBy_X5_cellOf rfl rfl rfl eSX5_cellOf ⟨Nat.le_of_ble_eq_true rfl, Nat.le_of_ble_eq_true rfl⟩) [2] hP hS (by decide) rfl rfl rfl hl.1 (Nat.le_of_ble_eq_true rfl) ⟨Nat.le_refl _, Nat.le_refl _⟩ rfl dX5_offBy_59 (fun H locs hP hS => ?_)
      have hP : WD D A [(a_z, .inr (5, [.ref a_z_s, .ref a_z_m, .ref a_z_image, .ref a_z_was, .int z_hasImage, .ref a_z_letters, .ref a_z_row, .ref a_z_refused, .int z_letterMany, .int z_rowMany, .int z_reading, .ref a_z_numbers, .int z_seed])), (a_z_s, .inl (cI, 45, .inl z_s)), (a_z_m, .inl (cI, 45, .inl z_m_48))] H := hP
      obtain ⟨r52, hk53, h⟩ := bd1_e h
      refine cS_i (rest := []) F (kX5_steps l D cI cJ H.size g (z_m_48 3) r50 r52 hk53) (va_cwS 2 hts gX5_offBy_X5_steps rfl rfl rfl eSX5_steps ⟨Nat.le_of_ble_eq_true rfl, Nat.le_of_ble_eq_true rfl⟩) [] hP hS (by decide) rfl rfl rfl hl.1 (Nat.le_of_ble_eq_true rfl) ⟨Nat.le_refl _, Nat.le_refl _⟩ rfl dX5_offBy_62 (fun H locs hP hS => ?_)
      have hP : WD D A [(a_z, .inr (5, [.ref a_z_s, .ref a_z_m, .ref a_z_image, .ref a_z_was, .int z_hasImage, .ref a_z_letters, .ref a_z_row, .ref a_z_refused, .int z_letterMany, .int z_rowMany, .int z_reading, .ref a_z_numbers, .int z_seed])), (a_z_s, .inl (cI, 45, .inl z_s)), (a_z_m, .inl (cI, 45, .inl z_m_48))] H := hP
      exact hret 65 H locs ls r52 z_m_48 h rfl dX5_offBy_65 hP hS
  · have h := it_p hc38 h
    refine lv_aload_n hx hb dX5_offBy_16 rfl (lv_at hl 0 rfl) ?_
    refine gt_X5_13 F iX5 (List.mem_cons_of_mem _ (List.mem_append_left _ (List.mem_append_left _ (List.mem_of_getElem? (i := 1) rfl)))) hP 0 rfl dX5_offBy_17 ?_
    refine lv_iload_n hx hb dX5_offBy_20 rfl (lv_at hl 2 rfl) ?_
    obtain ⟨z_m_54, hk55, h⟩ := bd1_e h
    refine cS_v (rest := []) F (kX5_dropsIn l D cI cJ H.size g a_z_m z_m_36 p1 z_m_54 hk55) (va_cwS 2 hts gX5_offBy_X5_dropsIn rfl rfl rfl eSX5_dropsIn ⟨Nat.le_of_ble_eq_true rfl, Nat.le_of_ble_eq_true rfl⟩) [2] hP hS (by decide) rfl rfl rfl hl.1 (Nat.le_of_ble_eq_true rfl) ⟨Nat.le_refl _, Nat.le_refl _⟩ rfl dX5_offBy_21 (fun H locs hP hS => ?_)
    have hP : WD D A [(a_z, .inr (5, [.ref a_z_s, .ref a_z_m, .ref a_z_image, .ref a_z_was, .int z_hasImage, .ref a_z_letters, .ref a_z_row, .ref a_z_refused, .int z_letterMany, .int z_rowMany, .int z_reading, .ref a_z_numbers, .int z_seed])), (a_z_s, .inl (cI, 45, .inl z_s)), (a_z_m, .inl (cI, 45, .inl z_m_54))] H := hP
    refine lv_iload hx hb dX5_offBy_24 (lv_at hl 5 rfl) ?_
    refine lv_iconst (v := 1) hx hb dX5_offBy_26 (by decide) ?_
    refine lv_icmp_ne (tgt := 39) hx hb dX5_offBy_27 (by decide) (fun hc56 => ?_) (fun hc56 => ?_)
    · have h := it_n hc56 h
      refine lv_aload_n hx hb dX5_offBy_39 rfl (lv_at hl 0 rfl) ?_
      refine gt_X5_13 F iX5 (List.mem_cons_of_mem _ (List.mem_append_left _ (List.mem_append_left _ (List.mem_of_getElem? (i := 1) rfl)))) hP 0 rfl dX5_offBy_40 ?_
      refine lv_iload hx hb dX5_offBy_43 (lv_at hl 6 rfl) ?_
      obtain ⟨z_m_57, hk58, h⟩ := bd1_e h
      refine cS_v (rest := []) F (kX5_daysOn l D cI cJ H.size g a_z_m z_m_54 p5 z_m_57 hk58) (va_cwS 2 hts gX5_offBy_X5_daysOn rfl rfl rfl eSX5_daysOn ⟨Nat.le_of_ble_eq_true rfl, Nat.le_of_ble_eq_true rfl⟩) [2] hP hS (by decide) rfl rfl rfl hl.1 (Nat.le_of_ble_eq_true rfl) ⟨Nat.le_refl _, Nat.le_refl _⟩ rfl dX5_offBy_45 (fun H locs hP hS => ?_)
      have hP : WD D A [(a_z, .inr (5, [.ref a_z_s, .ref a_z_m, .ref a_z_image, .ref a_z_was, .int z_hasImage, .ref a_z_letters, .ref a_z_row, .ref a_z_refused, .int z_letterMany, .int z_rowMany, .int z_reading, .ref a_z_numbers, .int z_seed])), (a_z_s, .inl (cI, 45, .inl z_s)), (a_z_m, .inl (cI, 45, .inl z_m_57))] H := hP
      refine lv_aload_n hx hb dX5_offBy_48 rfl (lv_at hl 0 rfl) ?_
      refine gt_X5_13 F iX5 (List.mem_cons_of_mem _ (List.mem_append_left _ (List.mem_append_left _ (List.mem_of_getElem? (i := 1) rfl)))) hP 0 rfl dX5_offBy_49 ?_
      refine lv_iconst (v := 3) hx hb dX5_offBy_52 (by decide) ?_
      refine r_ia F hP 2 rfl (j := 3) rfl (by decide) dX5_offBy_53 ?_
      refine lv_aload_n hx hb dX5_offBy_54 rfl (lv_at hl 0 rfl) ?_
      refine gt_X5_13 F iX5 (List.mem_cons_of_mem _ (List.mem_append_left _ (List.mem_append_left _ (List.mem_of_getElem? (i := 1) rfl)))) hP 0 rfl dX5_offBy_55 ?_
      refine lv_iload_n hx hb dX5_offBy_58 rfl (lv_at hl 1 rfl) ?_
      obtain ⟨r59, hk60, h⟩ := bd1_e h
      refine cS_i (rest := [.int (z_m_57 3)]) F (kX5_cellOf l D cI cJ H.size g a_z_m z_m_57 p0 r59 hk60) (va_cwS 2 hts gX5_offBy_X5_cellOf rfl rfl rfl eSX5_cellOf ⟨Nat.le_of_ble_eq_true rfl, Nat.le_of_ble_eq_true rfl⟩) [2] hP hS (by decide) rfl rfl rfl hl.1 (Nat.le_of_ble_eq_true rfl) ⟨Nat.le_refl _, Nat.le_refl _⟩ rfl dX5_offBy_59 (fun H locs hP hS => ?_)
      have hP : WD D A [(a_z, .inr (5, [.ref a_z_s, .ref a_z_m, .ref a_z_image, .ref a_z_was, .int z_hasImage, .ref a_z_letters, .ref a_z_row, .ref a_z_refused, .int z_letterMany, .int z_rowMany, .int z_reading, .ref a_z_numbers, .int z_seed])), (a_z_s, .inl (cI, 45, .inl z_s)), (a_z_m, .inl (cI, 45, .inl z_m_57))] H := hP
      obtain ⟨r61, hk62, h⟩ := bd1_e h
      refine cS_i (rest := []) F (kX5_steps l D cI cJ H.size g (z_m_57 3) r59 r61 hk62) (va_cwS 2 hts gX5_offBy_X5_steps rfl rfl rfl eSX5_steps ⟨Nat.le_of_ble_eq_true rfl, Nat.le_of_ble_eq_true rfl⟩) [] hP hS (by decide) rfl rfl rfl hl.1 (Nat.le_of_ble_eq_true rfl) ⟨Nat.le_refl _, Nat.le_refl _⟩ rfl dX5_offBy_62 (fun H locs hP hS => ?_)
      have hP : WD D A [(a_z, .inr (5, [.ref a_z_s, .ref a_z_m, .ref a_z_image, .ref a_z_was, .int z_hasImage, .ref a_z_letters, .ref a_z_row, .ref a_z_refused, .int z_letterMany, .int z_rowMany, .int z_reading, .ref a_z_numbers, .int z_seed])), (a_z_s, .inl (cI, 45, .inl z_s)), (a_z_m, .inl (cI, 45, .inl z_m_57))] H := hP
      exact hret 65 H locs ls r61 z_m_57 h rfl dX5_offBy_65 hP hS
    · have h := it_p hc56 h
      refine lv_aload_n hx hb dX5_offBy_30 rfl (lv_at hl 0 rfl) ?_
      refine gt_X5_13 F iX5 (List.mem_cons_of_mem _ (List.mem_append_left _ (List.mem_append_left _ (List.mem_of_getElem? (i := 1) rfl)))) hP 0 rfl dX5_offBy_31 ?_
      refine lv_iload hx hb dX5_offBy_34 (lv_at hl 4 rfl) ?_
      obtain ⟨z_m_63, hk64, h⟩ := bd1_e h
      refine cS_v (rest := []) F (kX5_dropsIn l D cI cJ H.size g a_z_m z_m_54 p3 z_m_63 hk64) (va_cwS 2 hts gX5_offBy_X5_dropsIn rfl rfl rfl eSX5_dropsIn ⟨Nat.le_of_ble_eq_true rfl, Nat.le_of_ble_eq_true rfl⟩) [2] hP hS (by decide) rfl rfl rfl hl.1 (Nat.le_of_ble_eq_true rfl) ⟨Nat.le_refl _, Nat.le_refl _⟩ rfl dX5_offBy_36 (fun H locs hP hS => ?_)
      have hP : WD D A [(a_z, .inr (5, [.ref a_z_s, .ref a_z_m, .ref a_z_image, .ref a_z_was, .int z_hasImage, .ref a_z_letters, .ref a_z_row, .ref a_z_refused, .int z_letterMany, .int z_rowMany, .int z_reading, .ref a_z_numbers, .int z_seed])), (a_z_s, .inl (cI, 45, .inl z_s)), (a_z_m, .inl (cI, 45, .inl z_m_63))] H := hP
      refine lv_aload_n hx hb dX5_offBy_39 rfl (lv_at hl 0 rfl) ?_
      refine gt_X5_13 F iX5 (List.mem_cons_of_mem _ (List.mem_append_left _ (List.mem_append_left _ (List.mem_of_getElem? (i := 1) rfl)))) hP 0 rfl dX5_offBy_40 ?_
      refine lv_iload hx hb dX5_offBy_43 (lv_at hl 6 rfl) ?_
      obtain ⟨z_m_65, hk66, h⟩ := bd1_e h
      refine cS_v (rest := []) F (kX5_daysOn l D cI cJ H.size g a_z_m z_m_63 p5 z_m_65 hk66) (va_cwS 2 hts gX5_offBy_X5_daysOn rfl rfl rfl eSX5_daysOn ⟨Nat.le_of_ble_eq_true rfl, Nat.le_of_ble_eq_true rfl⟩) [2] hP hS (by decide) rfl rfl rfl hl.1 (Nat.le_of_ble_eq_true rfl) ⟨Nat.le_refl _, Nat.le_refl _⟩ rfl dX5_offBy_45 (fun H locs hP hS => ?_)
      have hP : WD D A [(a_z, .inr (5, [.ref a_z_s, .ref a_z_m, .ref a_z_image, .ref a_z_was, .int z_hasImage, .ref a_z_letters, .ref a_z_row, .ref a_z_refused, .int z_letterMany, .int z_rowMany, .int z_reading, .ref a_z_numbers, .int z_seed])), (a_z_s, .inl (cI, 45, .inl z_s)), (a_z_m, .inl (cI, 45, .inl z_m_65))] H := hP
      refine lv_aload_n hx hb dX5_offBy_48 rfl (lv_at hl 0 rfl) ?_
      refine gt_X5_13 F iX5 (List.mem_cons_of_mem _ (List.mem_append_left _ (List.mem_append_left _ (List.mem_of_getElem? (i := 1) rfl)))) hP 0 rfl dX5_offBy_49 ?_
      refine lv_iconst (v := 3) hx hb dX5_offBy_52 (by decide) ?_
      refine r_ia F hP 2 rfl (j := 3) rfl (by decide) dX5_offBy_53 ?_
      refine lv_aload_n hx hb dX5_offBy_54 rfl (lv_at hl 0 rfl) ?_
      refine gt_X5_13 F iX5 (List.mem_cons_of_mem _ (List.mem_append_left _ (List.mem_append_left _ (List.mem_of_getElem? (i := 1) rfl)))) hP 0 rfl dX5_offBy_55 ?_
      refine lv_iload_n hx hb dX5_offBy_58 rfl (lv_at hl 1 rfl) ?_
      obtain ⟨r67, hk68, h⟩ := bd1_e h
      refine cS_i (rest := [.int (z_m_65 3)]) F (kX5_cellOf l D cI cJ H.size g a_z_m z_m_65 p0 r67 hk68) (va_cwS 2 hts gX5_offBy_X5_cellOf rfl rfl rfl eSX5_cellOf ⟨Nat.le_of_ble_eq_true rfl, Nat.le_of_ble_eq_true rfl⟩) [2] hP hS (by decide) rfl rfl rfl hl.1 (Nat.le_of_ble_eq_true rfl) ⟨Nat.le_refl _, Nat.le_refl _⟩ rfl dX5_offBy_59 (fun H locs hP hS => ?_)
      have hP : WD D A [(a_z, .inr (5, [.ref a_z_s, .ref a_z_m, .ref a_z_image, .ref a_z_was, .int z_hasImage, .ref a_z_letters, .ref a_z_row, .ref a_z_refused, .int z_letterMany, .int z_rowMany, .int z_reading, .ref a_z_numbers, .int z_seed])), (a_z_s, .inl (cI, 45, .inl z_s)), (a_z_m, .inl (cI, 45, .inl z_m_65))] H := hP
      obtain ⟨r69, hk70, h⟩ := bd1_e h
      refine cS_i (rest := []) F (kX5_steps l D cI cJ H.size g (z_m_65 3) r67 r69 hk70) (va_cwS 2 hts gX5_offBy_X5_steps rfl rfl rfl eSX5_steps ⟨Nat.le_of_ble_eq_true rfl, Nat.le_of_ble_eq_true rfl⟩) [] hP hS (by decide) rfl rfl rfl hl.1 (Nat.le_of_ble_eq_true rfl) ⟨Nat.le_refl _, Nat.le_refl _⟩ rfl dX5_offBy_62 (fun H locs hP hS => ?_)
      have hP : WD D A [(a_z, .inr (5, [.ref a_z_s, .ref a_z_m, .ref a_z_image, .ref a_z_was, .int z_hasImage, .ref a_z_letters, .ref a_z_row, .ref a_z_refused, .int z_letterMany, .int z_rowMany, .int z_reading, .ref a_z_numbers, .int z_seed])), (a_z_s, .inl (cI, 45, .inl z_s)), (a_z_m, .inl (cI, 45, .inl z_m_65))] H := hP
      exact hret 65 H locs ls r69 z_m_65 h rfl dX5_offBy_65 hP hS
