theorem eSX5_door : yX5_door.cls ≠ "java/lang/invoke/MethodHandle" ∧ yX5_door.cls ≠ "java/lang/invoke/VarHandle" ∧ (parseMethodDescriptor yX5_door.desc).map (fun d => d.parameters.length) = some 1 := by decide +kernel
theorem eVX5_door : yX5_door.cls = RX5 ∧ yX5_door.cls ≠ "java/lang/invoke/MethodHandle" ∧ yX5_door.cls ≠ "java/lang/invoke/VarHandle" ∧ (parseMethodDescriptor yX5_door.desc).map (fun d => d.parameters.length) = some 1 := ⟨rfl, eSX5_door⟩
abbrev rmX5_door : Room := { frames := 6, cells := 0, slots := 0, locals := 135 }
def fX5_door_L29_b (g : Nat) (x1_L29 : Int32) (z_refused_L29 : Nat → Int32) (self : Int32 → (Nat → Int32) → Option (((Nat → Int32)) ⊕ (Int32 × (Nat → Int32) × (Nat → Int32)))) (x2_L29 : Int32) (z_m_L29 : Nat → Int32) : Option (((Nat → Int32)) ⊕ (Int32 × (Nat → Int32) × (Nat → Int32))) := if 60 < x2_L29 then (some (.inl z_m_L29)) else (bd1 (fX5_needleIn g (-9) z_m_L29) fun r16 => (if x1_L29 = 0 then (bd1 (fX5_placeAt g z_m_L29) fun r37 => (if r37 < 0 then (if x1_L29 = 1 then (if r16 < 0 then (some (.inr (x2_L29, z_m_L29, z_refused_L29))) else (if x1_L29 = 2 then (bd1 (fX5_wayFrom g (z_m_L29 3) r16) fun r53 => (if r53 = (z_m_L29 3) then (some (.inr (x2_L29, z_m_L29, z_refused_L29))) else (bd1 (fX5_day g 0 z_m_L29) fun z_m_56 => (self (x2_L29 + 1) z_m_56)))) else (bd1 (fX5_day g 0 z_m_L29) fun z_m_51 => (self (x2_L29 + 1) z_m_51)))) else (if x1_L29 = 2 then (bd1 (fX5_wayFrom g (z_m_L29 3) r16) fun r44 => (if r44 = (z_m_L29 3) then (some (.inr (x2_L29, z_m_L29, z_refused_L29))) else (bd1 (fX5_day g 0 z_m_L29) fun z_m_47 => (self (x2_L29 + 1) z_m_47)))) else (bd1 (fX5_day g 0 z_m_L29) fun z_m_42 => (self (x2_L29 + 1) z_m_42)))) else (bd1 (fX5_placeAt g z_m_L29) fun r58 => (some (.inr (r58, z_m_L29, z_refused_L29)))))) else (if x1_L29 = 1 then (if r16 < 0 then (some (.inr (x2_L29, z_m_L29, z_refused_L29))) else (if x1_L29 = 2 then (bd1 (fX5_wayFrom g (z_m_L29 3) r16) fun r32 => (if r32 = (z_m_L29 3) then (some (.inr (x2_L29, z_m_L29, z_refused_L29))) else (bd1 (fX5_day g 0 z_m_L29) fun z_m_35 => (self (x2_L29 + 1) z_m_35)))) else (bd1 (fX5_day g 0 z_m_L29) fun z_m_30 => (self (x2_L29 + 1) z_m_30)))) else (if x1_L29 = 2 then (bd1 (fX5_wayFrom g (z_m_L29 3) r16) fun r23 => (if r23 = (z_m_L29 3) then (some (.inr (x2_L29, z_m_L29, z_refused_L29))) else (bd1 (fX5_day g 0 z_m_L29) fun z_m_26 => (self (x2_L29 + 1) z_m_26)))) else (bd1 (fX5_day g 0 z_m_L29) fun z_m_21 => (self (x2_L29 + 1) z_m_21))))))
def fX5_door_L29 (g : Nat) (x1_L29 : Int32) (z_refused_L29 : Nat → Int32) (n : Nat) : Int32 → (Nat → Int32) → Option (((Nat → Int32)) ⊕ (Int32 × (Nat → Int32) × (Nat → Int32))) := lp (fX5_door_L29_b g x1_L29 z_refused_L29) (fun _ _ => none) n
def fX5_door (g : Nat) (p0 : Int32) (z_s : Nat → Int32) (z_m : Nat → Int32) (z_refused : Nat → Int32) : Option (Int32 × (Nat → Int32) × (Nat → Int32)) := bd1 (fX5_isIn g p0 0 2) fun r10 => (if r10 = 0 then (bd2 (fX5_no g (-2) z_refused) fun r64 z_refused_65 => (some (r64, z_m, z_refused_65))) else (bd1 (fX5_copies g z_s z_m) fun z_m_13 => (bs1 (fX5_door_L29 g p0 z_refused g 0 z_m_13) (fun q => some q) fun t60 => (some ((-9), t60, z_refused)))))
set_option maxHeartbeats 4000000 in
set_option maxRecDepth 100000 in
theorem kX5_door (l : Launch) (D : va_G) (cI cJ : ClassId) (sz g : Nat) (a_z a_z_s a_z_m a_z_image a_z_was a_z_letters a_z_row a_z_refused a_z_numbers : Nat) (z_hasImage : Int32) (z_letterMany : Int32) (z_rowMany : Int32) (z_reading : Int32) (z_seed : Int32) (z_s : Nat → Int32) (z_m : Nat → Int32) (z_refused : Nat → Int32) (p0 : Int32) (r : Int32) (n_z_m : Nat → Int32) (n_z_refused : Nat → Int32) (hf : fX5_door g p0 z_s z_m z_refused = some (r, n_z_m, n_z_refused)) : Met l yX5_door wsX5_door rmX5_door (va_Pc [.ref a_z, .int p0] (sPc D (tyL cI cJ) [(a_z, .inr (5, [.ref a_z_s, .ref a_z_m, .ref a_z_image, .ref a_z_was, .int z_hasImage, .ref a_z_letters, .ref a_z_row, .ref a_z_refused, .int z_letterMany, .int z_rowMany, .int z_reading, .ref a_z_numbers, .int z_seed])), (a_z_s, .inl (cI, 45, .inl z_s)), (a_z_m, .inl (cI, 45, .inl z_m)), (a_z_refused, .inl (cI, 7, .inl z_refused))] sz)) (qI D (tyL cI cJ) [(a_z, .inr (5, [.ref a_z_s, .ref a_z_m, .ref a_z_image, .ref a_z_was, .int z_hasImage, .ref a_z_letters, .ref a_z_row, .ref a_z_refused, .int z_letterMany, .int z_rowMany, .int z_reading, .ref a_z_numbers, .int z_seed])), (a_z_s, .inl (cI, 45, .inl z_s)), (a_z_m, .inl (cI, 45, .inl z_m)), (a_z_refused, .inl (cI, 7, .inl z_refused))] sz [(a_z, .inr (5, [.ref a_z_s, .ref a_z_m, .ref a_z_image, .ref a_z_was, .int z_hasImage, .ref a_z_letters, .ref a_z_row, .ref a_z_refused, .int z_letterMany, .int z_rowMany, .int z_reading, .ref a_z_numbers, .int z_seed])), (a_z_s, .inl (cI, 45, .inl z_s)), (a_z_m, .inl (cI, 45, .inl n_z_m)), (a_z_refused, .inl (cI, 7, .inl n_z_refused))] r) 0 0 (va_A [(a_z, .inr (5, [.ref a_z_s, .ref a_z_m, .ref a_z_image, .ref a_z_was, .int z_hasImage, .ref a_z_letters, .ref a_z_row, .ref a_z_refused, .int z_letterMany, .int z_rowMany, .int z_reading, .ref a_z_numbers, .int z_seed])), (a_z_s, .inl (cI, 45, .inl z_s)), (a_z_m, .inl (cI, 45, .inl z_m)), (a_z_refused, .inl (cI, 7, .inl z_refused))] sz) := by
  refine st_i (cc := cX5_door) (maxL := 4) (by decide) rfl (Nat.le_of_ble_eq_true rfl) ?_
  intro p e s m args below meth c A Q F hret0 H locs hP hS ls hl
  have F : Cx p s m args c cX5_door 4 wsX5_door RX5 D (tyL cI cJ) A := F
  have hx := F.1.1
  have hb := F.1.2.1
  have hown := F.1.2.2.2.1
  have hts := F.1.2.2.2.2
  have iX5 : ∀ w ∈ wsX50, w ∈ wsX5_door := fun w h => (List.mem_cons_of_mem _ (List.mem_append_right _ h))
  have hret : ∀ (pc : Nat) (H : Heap) (locs : List Loc) (ls : Array Slot) (r' : Int32) (m_z_m : Nat → Int32) (m_z_refused : Nat → Int32), some (r', m_z_m, m_z_refused) = some (r, n_z_m, n_z_refused) → narrow .int (.int r') = .int r' → decode cX5_door pc = .ok (.ireturn, 1) → WD D A [(a_z, .inr (5, [.ref a_z_s, .ref a_z_m, .ref a_z_image, .ref a_z_was, .int z_hasImage, .ref a_z_letters, .ref a_z_row, .ref a_z_refused, .int z_letterMany, .int z_rowMany, .int z_reading, .ref a_z_numbers, .int z_seed])), (a_z_s, .inl (cI, 45, .inl z_s)), (a_z_m, .inl (cI, 45, .inl m_z_m)), (a_z_refused, .inl (cI, 7, .inl m_z_refused))] H → va_S A s.heap H locs → W p l e rmX5_door s m args below meth c H locs 0 0 Q (F0 m pc ls [.int r']) := by
    intro pc H locs ls r' m_z_m m_z_refused h hn hd hP hS
    cases h
    exact hret0 pc H locs ls hn hd hP hS
  have L29 : ∀ (x1_L29 : Int32) (z_refused_L29 : Nat → Int32) (n : Nat) (x2_L29 : Int32) (z_m_L29 : Nat → Int32) (x : ((Nat → Int32)) ⊕ (Int32 × (Nat → Int32) × (Nat → Int32))) (H : Heap) (locs : List Loc) (ls : Array Slot), fX5_door_L29 g x1_L29 z_refused_L29 n x2_L29 z_m_L29 = some x → WD D A [(a_z, .inr (5, [.ref a_z_s, .ref a_z_m, .ref a_z_image, .ref a_z_was, .int z_hasImage, .ref a_z_letters, .ref a_z_row, .ref a_z_refused, .int z_letterMany, .int z_rowMany, .int z_reading, .ref a_z_numbers, .int z_seed])), (a_z_s, .inl (cI, 45, .inl z_s)), (a_z_m, .inl (cI, 45, .inl z_m_L29)), (a_z_refused, .inl (cI, 7, .inl z_refused_L29))] H → va_S A s.heap H locs → lv_has ls 4 [(0, .ref a_z), (1, .int x1_L29), (2, .int x2_L29)] → (∀ (tt0 : Nat → Int32), .inl tt0 = x → (∀ (H : Heap) (locs : List Loc) (ls : Array Slot), WD D A [(a_z, .inr (5, [.ref a_z_s, .ref a_z_m, .ref a_z_image, .ref a_z_was, .int z_hasImage, .ref a_z_letters, .ref a_z_row, .ref a_z_refused, .int z_letterMany, .int z_rowMany, .int z_reading, .ref a_z_numbers, .int z_seed])), (a_z_s, .inl (cI, 45, .inl z_s)), (a_z_m, .inl (cI, 45, .inl tt0)), (a_z_refused, .inl (cI, 7, .inl z_refused_L29))] H → va_S A s.heap H locs → lv_has ls 4 [] → W p l e rmX5_door s m args below meth c H locs 0 0 Q (F0 m 116 ls []))) → (∀ q : Int32 × (Nat → Int32) × (Nat → Int32), .inr q = x → some q = some (r, n_z_m, n_z_refused)) → W p l e rmX5_door s m args below meth c H locs 0 0 Q (F0 m 29 ls []) := by
    intro x1_L29 z_refused_L29 n
    induction n with
    | zero =>
      intro x2_L29 z_m_L29 x H locs ls h
      exact (no_some h).elim
    | succ n ih =>
      intro x2_L29 z_m_L29 x H locs ls h hP hS hl kE kR
      have h : fX5_door_L29_b g x1_L29 z_refused_L29 (fX5_door_L29 g x1_L29 z_refused_L29 n) x2_L29 z_m_L29 = some x := h
      unfold fX5_door_L29_b at h
      refine lv_iload_n hx hb dX5_door_29 rfl (lv_at hl 2 rfl) ?_
      refine lv_bipush (v := 60) hx hb dX5_door_30 (by decide) ?_
      refine lv_icmp_gt (tgt := 116) hx hb dX5_door_32 (by decide) (fun hc15 => ?_) (fun hc15 => ?_)
      · have h := it_p hc15 h
        cases h
        exact kE _ rfl H locs ls hP hS (lv_sub hl [] rfl)
      · have h := it_n hc15 h
        refine lv_aload_n hx hb dX5_door_35 rfl (lv_at hl 0 rfl) ?_
        refine gt_X5_13 F iX5 (List.mem_cons_of_mem _ (List.mem_append_left _ (List.mem_append_left _ (List.mem_of_getElem? (i := 1) rfl)))) hP 0 rfl dX5_door_36 ?_
        refine lv_bipush (v := (-9)) hx hb dX5_door_39 (by decide) ?_
        obtain ⟨r16, hk17, h⟩ := bd1_e h
        refine cS_i (rest := []) F (kX5_needleIn l D cI cJ H.size g a_z_m z_m_L29 (-9) r16 hk17) (va_cwS 2 hts gX5_door_X5_needleIn rfl rfl rfl eSX5_needleIn ⟨Nat.le_of_ble_eq_true rfl, Nat.le_of_ble_eq_true rfl⟩) [2] hP hS (by decide) rfl rfl rfl hl.1 (Nat.le_of_ble_eq_true rfl) ⟨Nat.le_refl _, Nat.le_refl _⟩ rfl dX5_door_41 (fun H locs hP hS => ?_)
        have hP : WD D A [(a_z, .inr (5, [.ref a_z_s, .ref a_z_m, .ref a_z_image, .ref a_z_was, .int z_hasImage, .ref a_z_letters, .ref a_z_row, .ref a_z_refused, .int z_letterMany, .int z_rowMany, .int z_reading, .ref a_z_numbers, .int z_seed])), (a_z_s, .inl (cI, 45, .inl z_s)), (a_z_m, .inl (cI, 45, .inl z_m_L29)), (a_z_refused, .inl (cI, 7, .inl z_refused_L29))] H := hP
        refine lv_istore_n (lv' := [(3, .int r16), (0, .ref a_z), (1, .int x1_L29), (2, .int x2_L29)]) hx hb dX5_door_44 rfl hl (by decide) rfl (fun ls hl => ?_)
        refine lv_iload_n hx hb dX5_door_45 rfl (lv_at hl 2 rfl) ?_
        refine lv_if_ne (tgt := 67) hx hb dX5_door_46 (by decide) (fun hc18 => ?_) (fun hc18 => ?_)
        · have h := it_n hc18 h
          refine lv_iload_n hx hb dX5_door_67 rfl (lv_at hl 2 rfl) ?_
          refine lv_iconst (v := 1) hx hb dX5_door_68 (by decide) ?_
          refine lv_icmp_ne (tgt := 76) hx hb dX5_door_69 (by decide) (fun hc19 => ?_) (fun hc19 => ?_)
          · have h := it_n hc19 h
            refine lv_iload_n hx hb dX5_door_76 rfl (lv_at hl 2 rfl) ?_
            refine lv_iconst (v := 2) hx hb dX5_door_77 (by decide) ?_
            refine lv_icmp_ne (tgt := 102) hx hb dX5_door_78 (by decide) (fun hc20 => ?_) (fun hc20 => ?_)
            · have h := it_n hc20 h
              refine lv_aload_n hx hb dX5_door_102 rfl (lv_at hl 1 rfl) ?_
              refine gt_X5_13 F iX5 (List.mem_cons_of_mem _ (List.mem_append_left _ (List.mem_append_left _ (List.mem_of_getElem? (i := 1) rfl)))) hP 0 rfl dX5_door_103 ?_
              refine lv_iconst (v := 0) hx hb dX5_door_106 (by decide) ?_
              obtain ⟨z_m_21, hk22, h⟩ := bd1_e h
              refine cS_v (rest := []) F (kX5_day l D cI cJ H.size g a_z_m z_m_L29 0 z_m_21 hk22) (va_cwS 2 hts gX5_door_X5_day rfl rfl rfl eSX5_day ⟨Nat.le_of_ble_eq_true rfl, Nat.le_of_ble_eq_true rfl⟩) [2] hP hS (by decide) rfl rfl rfl hl.1 (Nat.le_of_ble_eq_true rfl) ⟨Nat.le_refl _, Nat.le_refl _⟩ rfl dX5_door_107 (fun H locs hP hS => ?_)
              have hP : WD D A [(a_z, .inr (5, [.ref a_z_s, .ref a_z_m, .ref a_z_image, .ref a_z_was, .int z_hasImage, .ref a_z_letters, .ref a_z_row, .ref a_z_refused, .int z_letterMany, .int z_rowMany, .int z_reading, .ref a_z_numbers, .int z_seed])), (a_z_s, .inl (cI, 45, .inl z_s)), (a_z_m, .inl (cI, 45, .inl z_m_21)), (a_z_refused, .inl (cI, 7, .inl z_refused_L29))] H := hP
              refine lv_iinc (v := x2_L29 + 1) (lv' := [(2, .int (x2_L29 + 1)), (3, .int r16), (0, .ref a_z), (1, .int x1_L29)]) hx hb dX5_door_110 hl (k := 3) rfl rfl (by decide) rfl (fun ls hl => ?_)
              refine lv_goto (tgt := 29) hx hb dX5_door_113 (by decide) ?_
              exact ih (x2_L29 + 1) z_m_21 x H locs ls h hP hS (lv_sub hl [2, 3, 0] rfl) kE kR
            · have h := it_p hc20 h
              refine lv_aload_n hx hb dX5_door_81 rfl (lv_at hl 1 rfl) ?_
              refine gt_X5_13 F iX5 (List.mem_cons_of_mem _ (List.mem_append_left _ (List.mem_append_left _ (List.mem_of_getElem? (i := 1) rfl)))) hP 0 rfl dX5_door_82 ?_
              refine lv_iconst (v := 3) hx hb dX5_door_85 (by decide) ?_
              refine r_ia F hP 2 rfl (j := 3) rfl (by decide) dX5_door_86 ?_
              refine lv_iload_n hx hb dX5_door_87 rfl (lv_at hl 0 rfl) ?_
              obtain ⟨r23, hk24, h⟩ := bd1_e h
              refine cS_i (rest := []) F (kX5_wayFrom l D cI cJ H.size g (z_m_L29 3) r16 r23 hk24) (va_cwS 2 hts gX5_door_X5_wayFrom rfl rfl rfl eSX5_wayFrom ⟨Nat.le_of_ble_eq_true rfl, Nat.le_of_ble_eq_true rfl⟩) [] hP hS (by decide) rfl rfl rfl hl.1 (Nat.le_of_ble_eq_true rfl) ⟨Nat.le_refl _, Nat.le_refl _⟩ rfl dX5_door_88 (fun H locs hP hS => ?_)
              have hP : WD D A [(a_z, .inr (5, [.ref a_z_s, .ref a_z_m, .ref a_z_image, .ref a_z_was, .int z_hasImage, .ref a_z_letters, .ref a_z_row, .ref a_z_refused, .int z_letterMany, .int z_rowMany, .int z_reading, .ref a_z_numbers, .int z_seed])), (a_z_s, .inl (cI, 45, .inl z_s)), (a_z_m, .inl (cI, 45, .inl z_m_L29)), (a_z_refused, .inl (cI, 7, .inl z_refused_L29))] H := hP
              refine lv_aload_n hx hb dX5_door_91 rfl (lv_at hl 1 rfl) ?_
              refine gt_X5_13 F iX5 (List.mem_cons_of_mem _ (List.mem_append_left _ (List.mem_append_left _ (List.mem_of_getElem? (i := 1) rfl)))) hP 0 rfl dX5_door_92 ?_
              refine lv_iconst (v := 3) hx hb dX5_door_95 (by decide) ?_
              refine r_ia F hP 2 rfl (j := 3) rfl (by decide) dX5_door_96 ?_
              refine lv_icmp_ne (tgt := 102) hx hb dX5_door_97 (by decide) (fun hc25 => ?_) (fun hc25 => ?_)
              · have h := it_n hc25 h
                refine lv_aload_n hx hb dX5_door_102 rfl (lv_at hl 1 rfl) ?_
                refine gt_X5_13 F iX5 (List.mem_cons_of_mem _ (List.mem_append_left _ (List.mem_append_left _ (List.mem_of_getElem? (i := 1) rfl)))) hP 0 rfl dX5_door_103 ?_
                refine lv_iconst (v := 0) hx hb dX5_door_106 (by decide) ?_
                obtain ⟨z_m_26, hk27, h⟩ := bd1_e h
                refine cS_v (rest := []) F (kX5_day l D cI cJ H.size g a_z_m z_m_L29 0 z_m_26 hk27) (va_cwS 2 hts gX5_door_X5_day rfl rfl rfl eSX5_day ⟨Nat.le_of_ble_eq_true rfl, Nat.le_of_ble_eq_true rfl⟩) [2] hP hS (by decide) rfl rfl rfl hl.1 (Nat.le_of_ble_eq_true rfl) ⟨Nat.le_refl _, Nat.le_refl _⟩ rfl dX5_door_107 (fun H locs hP hS => ?_)
                have hP : WD D A [(a_z, .inr (5, [.ref a_z_s, .ref a_z_m, .ref a_z_image, .ref a_z_was, .int z_hasImage, .ref a_z_letters, .ref a_z_row, .ref a_z_refused, .int z_letterMany, .int z_rowMany, .int z_reading, .ref a_z_numbers, .int z_seed])), (a_z_s, .inl (cI, 45, .inl z_s)), (a_z_m, .inl (cI, 45, .inl z_m_26)), (a_z_refused, .inl (cI, 7, .inl z_refused_L29))] H := hP
                refine lv_iinc (v := x2_L29 + 1) (lv' := [(2, .int (x2_L29 + 1)), (3, .int r16), (0, .ref a_z), (1, .int x1_L29)]) hx hb dX5_door_110 hl (k := 3) rfl rfl (by decide) rfl (fun ls hl => ?_)
                refine lv_goto (tgt := 29) hx hb dX5_door_113 (by decide) ?_
                exact ih (x2_L29 + 1) z_m_26 x H locs ls h hP hS (lv_sub hl [2, 3, 0] rfl) kE kR
              · have h := it_p hc25 h
                refine lv_iload_n hx hb dX5_door_100 rfl (lv_at hl 3 rfl) ?_
                have h := kR _ (Option.some.inj h)
                exact hret 101 H locs ls x2_L29 z_m_L29 z_refused_L29 h rfl dX5_door_101 hP hS
          · have h := it_p hc19 h
            refine lv_iload_n hx hb dX5_door_72 rfl (lv_at hl 0 rfl) ?_
            refine lv_if_lt (tgt := 100) hx hb dX5_door_73 (by decide) (fun hc28 => ?_) (fun hc28 => ?_)
            · have h := it_p hc28 h
              refine lv_iload_n hx hb dX5_door_100 rfl (lv_at hl 3 rfl) ?_
              have h := kR _ (Option.some.inj h)
              exact hret 101 H locs ls x2_L29 z_m_L29 z_refused_L29 h rfl dX5_door_101 hP hS
            · have h := it_n hc28 h
              refine lv_iload_n hx hb dX5_door_76 rfl (lv_at hl 2 rfl) ?_
              refine lv_iconst (v := 2) hx hb dX5_door_77 (by decide) ?_
              refine lv_icmp_ne (tgt := 102) hx hb dX5_door_78 (by decide) (fun hc29 => ?_) (fun hc29 => ?_)
              · have h := it_n hc29 h
                refine lv_aload_n hx hb dX5_door_102 rfl (lv_at hl 1 rfl) ?_
                refine gt_X5_13 F iX5 (List.mem_cons_of_mem _ (List.mem_append_left _ (List.mem_append_left _ (List.mem_of_getElem? (i := 1) rfl)))) hP 0 rfl dX5_door_103 ?_
                refine lv_iconst (v := 0) hx hb dX5_door_106 (by decide) ?_
                obtain ⟨z_m_30, hk31, h⟩ := bd1_e h
                refine cS_v (rest := []) F (kX5_day l D cI cJ H.size g a_z_m z_m_L29 0 z_m_30 hk31) (va_cwS 2 hts gX5_door_X5_day rfl rfl rfl eSX5_day ⟨Nat.le_of_ble_eq_true rfl, Nat.le_of_ble_eq_true rfl⟩) [2] hP hS (by decide) rfl rfl rfl hl.1 (Nat.le_of_ble_eq_true rfl) ⟨Nat.le_refl _, Nat.le_refl _⟩ rfl dX5_door_107 (fun H locs hP hS => ?_)
                have hP : WD D A [(a_z, .inr (5, [.ref a_z_s, .ref a_z_m, .ref a_z_image, .ref a_z_was, .int z_hasImage, .ref a_z_letters, .ref a_z_row, .ref a_z_refused, .int z_letterMany, .int z_rowMany, .int z_reading, .ref a_z_numbers, .int z_seed])), (a_z_s, .inl (cI, 45, .inl z_s)), (a_z_m, .inl (cI, 45, .inl z_m_30)), (a_z_refused, .inl (cI, 7, .inl z_refused_L29))] H := hP
                refine lv_iinc (v := x2_L29 + 1) (lv' := [(2, .int (x2_L29 + 1)), (3, .int r16), (0, .ref a_z), (1, .int x1_L29)]) hx hb dX5_door_110 hl (k := 3) rfl rfl (by decide) rfl (fun ls hl => ?_)
                refine lv_goto (tgt := 29) hx hb dX5_door_113 (by decide) ?_
                exact ih (x2_L29 + 1) z_m_30 x H locs ls h hP hS (lv_sub hl [2, 3, 0] rfl) kE kR
              · have h := it_p hc29 h
                refine lv_aload_n hx hb dX5_door_81 rfl (lv_at hl 1 rfl) ?_
                refine gt_X5_13 F iX5 (List.mem_cons_of_mem _ (List.mem_append_left _ (List.mem_append_left _ (List.mem_of_getElem? (i := 1) rfl)))) hP 0 rfl dX5_door_82 ?_
                refine lv_iconst (v := 3) hx hb dX5_door_85 (by decide) ?_
                refine r_ia F hP 2 rfl (j := 3) rfl (by decide) dX5_door_86 ?_
                refine lv_iload_n hx hb dX5_door_87 rfl (lv_at hl 0 rfl) ?_
                obtain ⟨r32, hk33, h⟩ := bd1_e h
                refine cS_i (rest := []) F (kX5_wayFrom l D cI cJ H.size g (z_m_L29 3) r16 r32 hk33) (va_cwS 2 hts gX5_door_X5_wayFrom rfl rfl rfl eSX5_wayFrom ⟨Nat.le_of_ble_eq_true rfl, Nat.le_of_ble_eq_true rfl⟩) [] hP hS (by decide) rfl rfl rfl hl.1 (Nat.le_of_ble_eq_true rfl) ⟨Nat.le_refl _, Nat.le_refl _⟩ rfl dX5_door_88 (fun H locs hP hS => ?_)
                have hP : WD D A [(a_z, .inr (5, [.ref a_z_s, .ref a_z_m, .ref a_z_image, .ref a_z_was, .int z_hasImage, .ref a_z_letters, .ref a_z_row, .ref a_z_refused, .int z_letterMany, .int z_rowMany, .int z_reading, .ref a_z_numbers, .int z_seed])), (a_z_s, .inl (cI, 45, .inl z_s)), (a_z_m, .inl (cI, 45, .inl z_m_L29)), (a_z_refused, .inl (cI, 7, .inl z_refused_L29))] H := hP
                refine lv_aload_n hx hb dX5_door_91 rfl (lv_at hl 1 rfl) ?_
                refine gt_X5_13 F iX5 (List.mem_cons_of_mem _ (List.mem_append_left _ (List.mem_append_left _ (List.mem_of_getElem? (i := 1) rfl)))) hP 0 rfl dX5_door_92 ?_
                refine lv_iconst (v := 3) hx hb dX5_door_95 (by decide) ?_
                refine r_ia F hP 2 rfl (j := 3) rfl (by decide) dX5_door_96 ?_
                refine lv_icmp_ne (tgt := 102) hx hb dX5_door_97 (by decide) (fun hc34 => ?_) (fun hc34 => ?_)
                · have h := it_n hc34 h
                  refine lv_aload_n hx hb dX5_door_102 rfl (lv_at hl 1 rfl) ?_
                  refine gt_X5_13 F iX5 (List.mem_cons_of_mem _ (List.mem_append_left _ (List.mem_append_left _ (List.mem_of_getElem? (i := 1) rfl)))) hP 0 rfl dX5_door_103 ?_
                  refine lv_iconst (v := 0) hx hb dX5_door_106 (by decide) ?_
                  obtain ⟨z_m_35, hk36, h⟩ := bd1_e h
                  refine cS_v (rest := []) F (kX5_day l D cI cJ H.size g a_z_m z_m_L29 0 z_m_35 hk36) (va_cwS 2 hts gX5_door_X5_day rfl rfl rfl eSX5_day ⟨Nat.le_of_ble_eq_true rfl, Nat.le_of_ble_eq_true rfl⟩) [2] hP hS (by decide) rfl rfl rfl hl.1 (Nat.le_of_ble_eq_true rfl) ⟨Nat.le_refl _, Nat.le_refl _⟩ rfl dX5_door_107 (fun H locs hP hS => ?_)
                  have hP : WD D A [(a_z, .inr (5, [.ref a_z_s, .ref a_z_m, .ref a_z_image, .ref a_z_was, .int z_hasImage, .ref a_z_letters, .ref a_z_row, .ref a_z_refused, .int z_letterMany, .int z_rowMany, .int z_reading, .ref a_z_numbers, .int z_seed])), (a_z_s, .inl (cI, 45, .inl z_s)), (a_z_m, .inl (cI, 45, .inl z_m_35)), (a_z_refused, .inl (cI, 7, .inl z_refused_L29))] H := hP
                  refine lv_iinc (v := x2_L29 + 1) (lv' := [(2, .int (x2_L29 + 1)), (3, .int r16), (0, .ref a_z), (1, .int x1_L29)]) hx hb dX5_door_110 hl (k := 3) rfl rfl (by decide) rfl (fun ls hl => ?_)
                  refine lv_goto (tgt := 29) hx hb dX5_door_113 (by decide) ?_
                  exact ih (x2_L29 + 1) z_m_35 x H locs ls h hP hS (lv_sub hl [2, 3, 0] rfl) kE kR
                · have h := it_p hc34 h
                  refine lv_iload_n hx hb dX5_door_100 rfl (lv_at hl 3 rfl) ?_
                  have h := kR _ (Option.some.inj h)
                  exact hret 101 H locs ls x2_L29 z_m_L29 z_refused_L29 h rfl dX5_door_101 hP hS
        · have h := it_p hc18 h
          refine lv_aload_n hx hb dX5_door_49 rfl (lv_at hl 1 rfl) ?_
          refine gt_X5_13 F iX5 (List.mem_cons_of_mem _ (List.mem_append_left _ (List.mem_append_left _ (List.mem_of_getElem? (i := 1) rfl)))) hP 0 rfl dX5_door_50 ?_
          obtain ⟨r37, hk38, h⟩ := bd1_e h
          refine cS_i (rest := []) F (kX5_placeAt l D cI cJ H.size g a_z_m z_m_L29 r37 hk38) (va_cwS 1 hts gX5_door_X5_placeAt rfl rfl rfl eSX5_placeAt ⟨Nat.le_of_ble_eq_true rfl, Nat.le_of_ble_eq_true rfl⟩) [2] hP hS (by decide) rfl rfl rfl hl.1 (Nat.le_of_ble_eq_true rfl) ⟨Nat.le_refl _, Nat.le_refl _⟩ rfl dX5_door_53 (fun H locs hP hS => ?_)
          have hP : WD D A [(a_z, .inr (5, [.ref a_z_s, .ref a_z_m, .ref a_z_image, .ref a_z_was, .int z_hasImage, .ref a_z_letters, .ref a_z_row, .ref a_z_refused, .int z_letterMany, .int z_rowMany, .int z_reading, .ref a_z_numbers, .int z_seed])), (a_z_s, .inl (cI, 45, .inl z_s)), (a_z_m, .inl (cI, 45, .inl z_m_L29)), (a_z_refused, .inl (cI, 7, .inl z_refused_L29))] H := hP
          refine lv_if_lt (tgt := 67) hx hb dX5_door_56 (by decide) (fun hc39 => ?_) (fun hc39 => ?_)
          · have h := it_p hc39 h
            refine lv_iload_n hx hb dX5_door_67 rfl (lv_at hl 2 rfl) ?_
            refine lv_iconst (v := 1) hx hb dX5_door_68 (by decide) ?_
            refine lv_icmp_ne (tgt := 76) hx hb dX5_door_69 (by decide) (fun hc40 => ?_) (fun hc40 => ?_)
            · have h := it_n hc40 h
              refine lv_iload_n hx hb dX5_door_76 rfl (lv_at hl 2 rfl) ?_
              refine lv_iconst (v := 2) hx hb dX5_door_77 (by decide) ?_
              refine lv_icmp_ne (tgt := 102) hx hb dX5_door_78 (by decide) (fun hc41 => ?_) (fun hc41 => ?_)
              · have h := it_n hc41 h
                refine lv_aload_n hx hb dX5_door_102 rfl (lv_at hl 1 rfl) ?_
                refine gt_X5_13 F iX5 (List.mem_cons_of_mem _ (List.mem_append_left _ (List.mem_append_left _ (List.mem_of_getElem? (i := 1) rfl)))) hP 0 rfl dX5_door_103 ?_
                refine lv_iconst (v := 0) hx hb dX5_door_106 (by decide) ?_
                obtain ⟨z_m_42, hk43, h⟩ := bd1_e h
                refine cS_v (rest := []) F (kX5_day l D cI cJ H.size g a_z_m z_m_L29 0 z_m_42 hk43) (va_cwS 2 hts gX5_door_X5_day rfl rfl rfl eSX5_day ⟨Nat.le_of_ble_eq_true rfl, Nat.le_of_ble_eq_true rfl⟩) [2] hP hS (by decide) rfl rfl rfl hl.1 (Nat.le_of_ble_eq_true rfl) ⟨Nat.le_refl _, Nat.le_refl _⟩ rfl dX5_door_107 (fun H locs hP hS => ?_)
                have hP : WD D A [(a_z, .inr (5, [.ref a_z_s, .ref a_z_m, .ref a_z_image, .ref a_z_was, .int z_hasImage, .ref a_z_letters, .ref a_z_row, .ref a_z_refused, .int z_letterMany, .int z_rowMany, .int z_reading, .ref a_z_numbers, .int z_seed])), (a_z_s, .inl (cI, 45, .inl z_s)), (a_z_m, .inl (cI, 45, .inl z_m_42)), (a_z_refused, .inl (cI, 7, .inl z_refused_L29))] H := hP
                refine lv_iinc (v := x2_L29 + 1) (lv' := [(2, .int (x2_L29 + 1)), (3, .int r16), (0, .ref a_z), (1, .int x1_L29)]) hx hb dX5_door_110 hl (k := 3) rfl rfl (by decide) rfl (fun ls hl => ?_)
                refine lv_goto (tgt := 29) hx hb dX5_door_113 (by decide) ?_
                exact ih (x2_L29 + 1) z_m_42 x H locs ls h hP hS (lv_sub hl [2, 3, 0] rfl) kE kR
              · have h := it_p hc41 h
                refine lv_aload_n hx hb dX5_door_81 rfl (lv_at hl 1 rfl) ?_
                refine gt_X5_13 F iX5 (List.mem_cons_of_mem _ (List.mem_append_left _ (List.mem_append_left _ (List.mem_of_getElem? (i := 1) rfl)))) hP 0 rfl dX5_door_82 ?_
                refine lv_iconst (v := 3) hx hb dX5_door_85 (by decide) ?_
                refine r_ia F hP 2 rfl (j := 3) rfl (by decide) dX5_door_86 ?_
                refine lv_iload_n hx hb dX5_door_87 rfl (lv_at hl 0 rfl) ?_
                obtain ⟨r44, hk45, h⟩ := bd1_e h
                refine cS_i (rest := []) F (kX5_wayFrom l D cI cJ H.size g (z_m_L29 3) r16 r44 hk45) (va_cwS 2 hts gX5_door_X5_wayFrom rfl rfl rfl eSX5_wayFrom ⟨Nat.le_of_ble_eq_true rfl, Nat.le_of_ble_eq_true rfl⟩) [] hP hS (by decide) rfl rfl rfl hl.1 (Nat.le_of_ble_eq_true rfl) ⟨Nat.le_refl _, Nat.le_refl _⟩ rfl dX5_door_88 (fun H locs hP hS => ?_)
                have hP : WD D A [(a_z, .inr (5, [.ref a_z_s, .ref a_z_m, .ref a_z_image, .ref a_z_was, .int z_hasImage, .ref a_z_letters, .ref a_z_row, .ref a_z_refused, .int z_letterMany, .int z_rowMany, .int z_reading, .ref a_z_numbers, .int z_seed])), (a_z_s, .inl (cI, 45, .inl z_s)), (a_z_m, .inl (cI, 45, .inl z_m_L29)), (a_z_refused, .inl (cI, 7, .inl z_refused_L29))] H := hP
                refine lv_aload_n hx hb dX5_door_91 rfl (lv_at hl 1 rfl) ?_
                refine gt_X5_13 F iX5 (List.mem_cons_of_mem _ (List.mem_append_left _ (List.mem_append_left _ (List.mem_of_getElem? (i := 1) rfl)))) hP 0 rfl dX5_door_92 ?_
                refine lv_iconst (v := 3) hx hb dX5_door_95 (by decide) ?_
                refine r_ia F hP 2 rfl (j := 3) rfl (by decide) dX5_door_96 ?_
                refine lv_icmp_ne (tgt := 102) hx hb dX5_door_97 (by decide) (fun hc46 => ?_) (fun hc46 => ?_)
                · have h := it_n hc46 h
                  refine lv_aload_n hx hb dX5_door_102 rfl (lv_at hl 1 rfl) ?_
                  refine gt_X5_13 F iX5 (List.mem_cons_of_mem _ (List.mem_append_left _ (List.mem_append_left _ (List.mem_of_getElem? (i := 1) rfl)))) hP 0 rfl dX5_door_103 ?_
                  refine lv_iconst (v := 0) hx hb dX5_door_106 (by decide) ?_
                  obtain ⟨z_m_47, hk48, h⟩ := bd1_e h
                  refine cS_v (rest := []) F (kX5_day l D cI cJ H.size g a_z_m z_m_L29 0 z_m_47 hk48) (va_cwS 2 hts gX5_door_X5_day rfl rfl rfl eSX5_day ⟨Nat.le_of_ble_eq_true rfl, Nat.le_of_ble_eq_true rfl⟩) [2] hP hS (by decide) rfl rfl rfl hl.1 (Nat.le_of_ble_eq_true rfl) ⟨Nat.le_refl _, Nat.le_refl _⟩ rfl dX5_door_107 (fun H locs hP hS => ?_)
                  have hP : WD D A [(a_z, .inr (5, [.ref a_z_s, .ref a_z_m, .ref a_z_image, .ref a_z_was, .int z_hasImage, .ref a_z_letters, .ref a_z_row, .ref a_z_refused, .int z_letterMany, .int z_rowMany, .int z_reading, .ref a_z_numbers, .int z_seed])), (a_z_s, .inl (cI, 45, .inl z_s)), (a_z_m, .inl (cI, 45, .inl z_m_47)), (a_z_refused, .inl (cI, 7, .inl z_refused_L29))] H := hP
                  refine lv_iinc (v := x2_L29 + 1) (lv' := [(2, .int (x2_L29 + 1)), (3, .int r16), (0, .ref a_z), (1, .int x1_L29)]) hx hb dX5_door_110 hl (k := 3) rfl rfl (by decide) rfl (fun ls hl => ?_)
                  refine lv_goto (tgt := 29) hx hb dX5_door_113 (by decide) ?_
                  exact ih (x2_L29 + 1) z_m_47 x H locs ls h hP hS (lv_sub hl [2, 3, 0] rfl) kE kR
                · have h := it_p hc46 h
                  refine lv_iload_n hx hb dX5_door_100 rfl (lv_at hl 3 rfl) ?_
                  have h := kR _ (Option.some.inj h)
                  exact hret 101 H locs ls x2_L29 z_m_L29 z_refused_L29 h rfl dX5_door_101 hP hS
            · have h := it_p hc40 h
              refine lv_iload_n hx hb dX5_door_72 rfl (lv_at hl 0 rfl) ?_
              refine lv_if_lt (tgt := 100) hx hb dX5_door_73 (by decide) (fun hc49 => ?_) (fun hc49 => ?_)
              · have h := it_p hc49 h
                refine lv_iload_n hx hb dX5_door_100 rfl (lv_at hl 3 rfl) ?_
                have h := kR _ (Option.some.inj h)
                exact hret 101 H locs ls x2_L29 z_m_L29 z_refused_L29 h rfl dX5_door_101 hP hS
              · have h := it_n hc49 h
                refine lv_iload_n hx hb dX5_door_76 rfl (lv_at hl 2 rfl) ?_
                refine lv_iconst (v := 2) hx hb dX5_door_77 (by decide) ?_
                refine lv_icmp_ne (tgt := 102) hx hb dX5_door_78 (by decide) (fun hc50 => ?_) (fun hc50 => ?_)
                · have h := it_n hc50 h
                  refine lv_aload_n hx hb dX5_door_102 rfl (lv_at hl 1 rfl) ?_
                  refine gt_X5_13 F iX5 (List.mem_cons_of_mem _ (List.mem_append_left _ (List.mem_append_left _ (List.mem_of_getElem? (i := 1) rfl)))) hP 0 rfl dX5_door_103 ?_
                  refine lv_iconst (v := 0) hx hb dX5_door_106 (by decide) ?_
                  obtain ⟨z_m_51, hk52, h⟩ := bd1_e h
                  refine cS_v (rest := []) F (kX5_day l D cI cJ H.size g a_z_m z_m_L29 0 z_m_51 hk52) (va_cwS 2 hts gX5_door_X5_day rfl rfl rfl eSX5_day ⟨Nat.le_of_ble_eq_true rfl, Nat.le_of_ble_eq_true rfl⟩) [2] hP hS (by decide) rfl rfl rfl hl.1 (Nat.le_of_ble_eq_true rfl) ⟨Nat.le_refl _, Nat.le_refl _⟩ rfl dX5_door_107 (fun H locs hP hS => ?_)
                  have hP : WD D A [(a_z, .inr (5, [.ref a_z_s, .ref a_z_m, .ref a_z_image, .ref a_z_was, .int z_hasImage, .ref a_z_letters, .ref a_z_row, .ref a_z_refused, .int z_letterMany, .int z_rowMany, .int z_reading, .ref a_z_numbers, .int z_seed])), (a_z_s, .inl (cI, 45, .inl z_s)), (a_z_m, .inl (cI, 45, .inl z_m_51)), (a_z_refused, .inl (cI, 7, .inl z_refused_L29))] H := hP
                  refine lv_iinc (v := x2_L29 + 1) (lv' := [(2, .int (x2_L29 + 1)), (3, .int r16), (0, .ref a_z), (1, .int x1_L29)]) hx hb dX5_door_110 hl (k := 3) rfl rfl (by decide) rfl (fun ls hl => ?_)
                  refine lv_goto (tgt := 29) hx hb dX5_door_113 (by decide) ?_
                  exact ih (x2_L29 + 1) z_m_51 x H locs ls h hP hS (lv_sub hl [2, 3, 0] rfl) kE kR
                · have h := it_p hc50 h
                  refine lv_aload_n hx hb dX5_door_81 rfl (lv_at hl 1 rfl) ?_
                  refine gt_X5_13 F iX5 (List.mem_cons_of_mem _ (List.mem_append_left _ (List.mem_append_left _ (List.mem_of_getElem? (i := 1) rfl)))) hP 0 rfl dX5_door_82 ?_
                  refine lv_iconst (v := 3) hx hb dX5_door_85 (by decide) ?_
                  refine r_ia F hP 2 rfl (j := 3) rfl (by decide) dX5_door_86 ?_
                  refine lv_iload_n hx hb dX5_door_87 rfl (lv_at hl 0 rfl) ?_
                  obtain ⟨r53, hk54, h⟩ := bd1_e h
                  refine cS_i (rest := []) F (kX5_wayFrom l D cI cJ H.size g (z_m_L29 3) r16 r53 hk54) (va_cwS 2 hts gX5_door_X5_wayFrom rfl rfl rfl eSX5_wayFrom ⟨Nat.le_of_ble_eq_true rfl, Nat.le_of_ble_eq_true rfl⟩) [] hP hS (by decide) rfl rfl rfl hl.1 (Nat.le_of_ble_eq_true rfl) ⟨Nat.le_refl _, Nat.le_refl _⟩ rfl dX5_door_88 (fun H locs hP hS => ?_)
                  have hP : WD D A [(a_z, .inr (5, [.ref a_z_s, .ref a_z_m, .ref a_z_image, .ref a_z_was, .int z_hasImage, .ref a_z_letters, .ref a_z_row, .ref a_z_refused, .int z_letterMany, .int z_rowMany, .int z_reading, .ref a_z_numbers, .int z_seed])), (a_z_s, .inl (cI, 45, .inl z_s)), (a_z_m, .inl (cI, 45, .inl z_m_L29)), (a_z_refused, .inl (cI, 7, .inl z_refused_L29))] H := hP
                  refine lv_aload_n hx hb dX5_door_91 rfl (lv_at hl 1 rfl) ?_
                  refine gt_X5_13 F iX5 (List.mem_cons_of_mem _ (List.mem_append_left _ (List.mem_append_left _ (List.mem_of_getElem? (i := 1) rfl)))) hP 0 rfl dX5_door_92 ?_
                  refine lv_iconst (v := 3) hx hb dX5_door_95 (by decide) ?_
                  refine r_ia F hP 2 rfl (j := 3) rfl (by decide) dX5_door_96 ?_
                  refine lv_icmp_ne (tgt := 102) hx hb dX5_door_97 (by decide) (fun hc55 => ?_) (fun hc55 => ?_)
                  · have h := it_n hc55 h
                    refine lv_aload_n hx hb dX5_door_102 rfl (lv_at hl 1 rfl) ?_
                    refine gt_X5_13 F iX5 (List.mem_cons_of_mem _ (List.mem_append_left _ (List.mem_append_left _ (List.mem_of_getElem? (i := 1) rfl)))) hP 0 rfl dX5_door_103 ?_
                    refine lv_iconst (v := 0) hx hb dX5_door_106 (by decide) ?_
                    obtain ⟨z_m_56, hk57, h⟩ := bd1_e h
                    refine cS_v (rest := []) F (kX5_day l D cI cJ H.size g a_z_m z_m_L29 0 z_m_56 hk57) (va_cwS 2 hts gX5_door_X5_day rfl rfl rfl eSX5_day ⟨Nat.le_of_ble_eq_true rfl, Nat.le_of_ble_eq_true rfl⟩) [2] hP hS (by decide) rfl rfl rfl hl.1 (Nat.le_of_ble_eq_true rfl) ⟨Nat.le_refl _, Nat.le_refl _⟩ rfl dX5_door_107 (fun H locs hP hS => ?_)
                    have hP : WD D A [(a_z, .inr (5, [.ref a_z_s, .ref a_z_m, .ref a_z_image, .ref a_z_was, .int z_hasImage, .ref a_z_letters, .ref a_z_row, .ref a_z_refused, .int z_letterMany, .int z_rowMany, .int z_reading, .ref a_z_numbers, .int z_seed])), (a_z_s, .inl (cI, 45, .inl z_s)), (a_z_m, .inl (cI, 45, .inl z_m_56)), (a_z_refused, .inl (cI, 7, .inl z_refused_L29))] H := hP
                    refine lv_iinc (v := x2_L29 + 1) (lv' := [(2, .int (x2_L29 + 1)), (3, .int r16), (0, .ref a_z), (1, .int x1_L29)]) hx hb dX5_door_110 hl (k := 3) rfl rfl (by decide) rfl (fun ls hl => ?_)
                    refine lv_goto (tgt := 29) hx hb dX5_door_113 (by decide) ?_
                    exact ih (x2_L29 + 1) z_m_56 x H locs ls h hP hS (lv_sub hl [2, 3, 0] rfl) kE kR
                  · have h := it_p hc55 h
                    refine lv_iload_n hx hb dX5_door_100 rfl (lv_at hl 3 rfl) ?_
                    have h := kR _ (Option.some.inj h)
                    exact hret 101 H locs ls x2_L29 z_m_L29 z_refused_L29 h rfl dX5_door_101 hP hS
          · have h := it_n hc39 h
            refine lv_aload_n hx hb dX5_door_59 rfl (lv_at hl 1 rfl) ?_
            refine gt_X5_13 F iX5 (List.mem_cons_of_mem _ (List.mem_append_left _ (List.mem_append_left _ (List.mem_of_getElem? (i := 1) rfl)))) hP 0 rfl dX5_door_60 ?_
            obtain ⟨r58, hk59, h⟩ := bd1_e h
            refine cS_i (rest := []) F (kX5_placeAt l D cI cJ H.size g a_z_m z_m_L29 r58 hk59) (va_cwS 1 hts gX5_door_X5_placeAt rfl rfl rfl eSX5_placeAt ⟨Nat.le_of_ble_eq_true rfl, Nat.le_of_ble_eq_true rfl⟩) [2] hP hS (by decide) rfl rfl rfl hl.1 (Nat.le_of_ble_eq_true rfl) ⟨Nat.le_refl _, Nat.le_refl _⟩ rfl dX5_door_63 (fun H locs hP hS => ?_)
            have hP : WD D A [(a_z, .inr (5, [.ref a_z_s, .ref a_z_m, .ref a_z_image, .ref a_z_was, .int z_hasImage, .ref a_z_letters, .ref a_z_row, .ref a_z_refused, .int z_letterMany, .int z_rowMany, .int z_reading, .ref a_z_numbers, .int z_seed])), (a_z_s, .inl (cI, 45, .inl z_s)), (a_z_m, .inl (cI, 45, .inl z_m_L29)), (a_z_refused, .inl (cI, 7, .inl z_refused_L29))] H := hP
            have h := kR _ (Option.some.inj h)
            exact hret 66 H locs ls r58 z_m_L29 z_refused_L29 h rfl dX5_door_66 hP hS
  have hl : lv_has ls 4 [(0, .ref a_z), (1, .int p0)] := hl
  have h := hf
  unfold fX5_door at h
  refine lv_iload_n hx hb dX5_door_0 rfl (lv_at hl 1 rfl) ?_
  refine lv_iconst (v := 0) hx hb dX5_door_1 (by decide) ?_
  refine lv_iconst (v := 2) hx hb dX5_door_2 (by decide) ?_
  obtain ⟨r10, hk11, h⟩ := bd1_e h
  refine cS_i (rest := []) F (kX5_isIn l D cI cJ H.size g p0 0 2 r10 hk11) (va_cwS 3 hts gX5_door_X5_isIn rfl rfl rfl eSX5_isIn ⟨Nat.le_of_ble_eq_true rfl, Nat.le_of_ble_eq_true rfl⟩) [] hP hS (by decide) rfl rfl rfl hl.1 (Nat.le_of_ble_eq_true rfl) ⟨Nat.le_refl _, Nat.le_refl _⟩ rfl dX5_door_3 (fun H locs hP hS => ?_)
  have hP : WD D A [(a_z, .inr (5, [.ref a_z_s, .ref a_z_m, .ref a_z_image, .ref a_z_was, .int z_hasImage, .ref a_z_letters, .ref a_z_row, .ref a_z_refused, .int z_letterMany, .int z_rowMany, .int z_reading, .ref a_z_numbers, .int z_seed])), (a_z_s, .inl (cI, 45, .inl z_s)), (a_z_m, .inl (cI, 45, .inl z_m)), (a_z_refused, .inl (cI, 7, .inl z_refused))] H := hP
  refine lv_if_ne (tgt := 16) hx hb dX5_door_6 (by decide) (fun hc12 => ?_) (fun hc12 => ?_)
  · have h := it_n hc12 h
    refine lv_aload_n hx hb dX5_door_16 rfl (lv_at hl 0 rfl) ?_
    refine gt_X5_9 F iX5 (List.mem_cons_of_mem _ (List.mem_append_left _ (List.mem_append_left _ (List.mem_of_getElem? (i := 0) rfl)))) hP 0 rfl dX5_door_17 ?_
    refine lv_aload_n hx hb dX5_door_20 rfl (lv_at hl 0 rfl) ?_
    refine gt_X5_13 F iX5 (List.mem_cons_of_mem _ (List.mem_append_left _ (List.mem_append_left _ (List.mem_of_getElem? (i := 1) rfl)))) hP 0 rfl dX5_door_21 ?_
    obtain ⟨z_m_13, hk14, h⟩ := bd1_e h
    refine cS_v (rest := []) F (kX5_copies l D cI cJ H.size g a_z_s a_z_m z_s z_m z_m_13 hk14) (va_cwS 2 hts gX5_door_X5_copies rfl rfl rfl eSX5_copies ⟨Nat.le_of_ble_eq_true rfl, Nat.le_of_ble_eq_true rfl⟩) [1, 2] hP hS (by decide) rfl rfl rfl hl.1 (Nat.le_of_ble_eq_true rfl) ⟨Nat.le_refl _, Nat.le_refl _⟩ rfl dX5_door_24 (fun H locs hP hS => ?_)
    have hP : WD D A [(a_z, .inr (5, [.ref a_z_s, .ref a_z_m, .ref a_z_image, .ref a_z_was, .int z_hasImage, .ref a_z_letters, .ref a_z_row, .ref a_z_refused, .int z_letterMany, .int z_rowMany, .int z_reading, .ref a_z_numbers, .int z_seed])), (a_z_s, .inl (cI, 45, .inl z_s)), (a_z_m, .inl (cI, 45, .inl z_m_13)), (a_z_refused, .inl (cI, 7, .inl z_refused))] H := hP
    refine lv_iconst (v := 0) hx hb dX5_door_27 (by decide) ?_
    refine lv_istore_n (lv' := [(2, .int 0), (0, .ref a_z), (1, .int p0)]) hx hb dX5_door_28 rfl hl (by decide) rfl (fun ls hl => ?_)
    obtain ⟨x62, hk61, x62a, x62b⟩ := bs1_e h
    refine L29 p0 z_refused g 0 z_m_13 x62 H locs ls hk61 hP hS (lv_sub hl [1, 2, 0] rfl) (fun t60 he63 H locs ls hP hS hl => ?_) (fun q he63 => (x62b q he63.symm))
    have h := x62a t60 he63.symm
    refine lv_bipush (v := (-9)) hx hb dX5_door_116 (by decide) ?_
    exact hret 118 H locs ls (-9) t60 z_refused h rfl dX5_door_118 hP hS
  · have h := it_p hc12 h
    refine lv_aload_n hx hb dX5_door_9 rfl (lv_at hl 0 rfl) ?_
    refine lv_bipush (v := (-2)) hx hb dX5_door_10 (by decide) ?_
    obtain ⟨r64, z_refused_65, hk66, h⟩ := bd2_e h
    refine cV_i (rest := []) F (kX5_no l D cI cJ H.size g a_z a_z_s a_z_m a_z_image a_z_was a_z_letters a_z_row a_z_refused a_z_numbers z_hasImage z_letterMany z_rowMany z_reading z_seed z_refused (-2) r64 z_refused_65 hk66) (cwV 1 hts gX5_door_X5_no rfl rfl rfl eVX5_no ⟨Nat.le_of_ble_eq_true rfl, Nat.le_of_ble_eq_true rfl⟩) [0, 3] hP hS (by decide) rfl rfl 0 rfl rfl rfl hl.1 (Nat.le_of_ble_eq_true rfl) ⟨Nat.le_refl _, Nat.le_refl _⟩ rfl dX5_door_12 (fun H locs hP hS => ?_)
    have hP : WD D A [(a_z, .inr (5, [.ref a_z_s, .ref a_z_m, .ref a_z_image, .ref a_z_was, .int z_hasImage, .ref a_z_letters, .ref a_z_row, .ref a_z_refused, .int z_letterMany, .int z_rowMany, .int z_reading, .ref a_z_numbers, .int z_seed])), (a_z_s, .inl (cI, 45, .inl z_s)), (a_z_m, .inl (cI, 45, .inl z_m)), (a_z_refused, .inl (cI, 7, .inl z_refused_65))] H := hP
    exact hret 15 H locs ls r64 z_m z_refused_65 h rfl dX5_door_15 hP hS
theorem eSX5_wrongFor : yX5_wrongFor.cls ≠ "java/lang/invoke/MethodHandle" ∧ yX5_wrongFor.cls ≠ "java/lang/invoke/VarHandle" ∧ (parseMethodDescriptor yX5_wrongFor.desc).map (fun d => d.parameters.length) = some 2 := by decide +kernel
theorem eVX5_wrongFor : yX5_wrongFor.cls = RX5 ∧ yX5_wrongFor.cls ≠ "java/lang/invoke/MethodHandle" ∧ yX5_wrongFor.cls ≠ "java/lang/invoke/VarHandle" ∧ (parseMethodDescriptor yX5_wrongFor.desc).map (fun d => d.parameters.length) = some 2 := ⟨rfl, eSX5_wrongFor⟩
abbrev rmX5_wrongFor : Room := { frames := 2, cells := 0, slots := 0, locals := 43 }
def fX5_wrongFor (g : Nat) (p0 : Int32) (p1 : Int32) (z_s : Nat → Int32) : Option (Int32) := bd1 (fX5_isPlace g p0 z_s) fun r6 => (if r6 = 0 then (some (-1)) else (bd1 (fX5_wrongBy g p1 0 30) fun r9 => (some r9)))
set_option maxHeartbeats 4000000 in
set_option maxRecDepth 100000 in
theorem kX5_wrongFor (l : Launch) (D : va_G) (cI cJ : ClassId) (sz g : Nat) (a_z a_z_s a_z_m a_z_image a_z_was a_z_letters a_z_row a_z_refused a_z_numbers : Nat) (z_hasImage : Int32) (z_letterMany : Int32) (z_rowMany : Int32) (z_reading : Int32) (z_seed : Int32) (z_s : Nat → Int32) (p0 : Int32) (p1 : Int32) (r : Int32) (hf : fX5_wrongFor g p0 p1 z_s = some r) : Met l yX5_wrongFor wsX5_wrongFor rmX5_wrongFor (va_Pc [.ref a_z, .int p0, .int p1] (sPc D (tyL cI cJ) [(a_z, .inr (5, [.ref a_z_s, .ref a_z_m, .ref a_z_image, .ref a_z_was, .int z_hasImage, .ref a_z_letters, .ref a_z_row, .ref a_z_refused, .int z_letterMany, .int z_rowMany, .int z_reading, .ref a_z_numbers, .int z_seed])), (a_z_s, .inl (cI, 45, .inl z_s))] sz)) (qI D (tyL cI cJ) [(a_z, .inr (5, [.ref a_z_s, .ref a_z_m, .ref a_z_image, .ref a_z_was, .int z_hasImage, .ref a_z_letters, .ref a_z_row, .ref a_z_refused, .int z_letterMany, .int z_rowMany, .int z_reading, .ref a_z_numbers, .int z_seed])), (a_z_s, .inl (cI, 45, .inl z_s))] sz [(a_z, .inr (5, [.ref a_z_s, .ref a_z_m, .ref a_z_image, .ref a_z_was, .int z_hasImage, .ref a_z_letters, .ref a_z_row, .ref a_z_refused, .int z_letterMany, .int z_rowMany, .int z_reading, .ref a_z_numbers, .int z_seed])), (a_z_s, .inl (cI, 45, .inl z_s))] r) 0 0 (va_A [(a_z, .inr (5, [.ref a_z_s, .ref a_z_m, .ref a_z_image, .ref a_z_was, .int z_hasImage, .ref a_z_letters, .ref a_z_row, .ref a_z_refused, .int z_letterMany, .int z_rowMany, .int z_reading, .ref a_z_numbers, .int z_seed])), (a_z_s, .inl (cI, 45, .inl z_s))] sz) := by
  refine st_i (cc := cX5_wrongFor) (maxL := 3) (by decide) rfl (Nat.le_of_ble_eq_true rfl) ?_
  intro p e s m args below meth c A Q F hret0 H locs hP hS ls hl
  have F : Cx p s m args c cX5_wrongFor 3 wsX5_wrongFor RX5 D (tyL cI cJ) A := F
  have hx := F.1.1
  have hb := F.1.2.1
  have hown := F.1.2.2.2.1
  have hts := F.1.2.2.2.2
  have hret : ∀ (pc : Nat) (H : Heap) (locs : List Loc) (ls : Array Slot) (r' : Int32), some r' = some r → narrow .int (.int r') = .int r' → decode cX5_wrongFor pc = .ok (.ireturn, 1) → WD D A [(a_z, .inr (5, [.ref a_z_s, .ref a_z_m, .ref a_z_image, .ref a_z_was, .int z_hasImage, .ref a_z_letters, .ref a_z_row, .ref a_z_refused, .int z_letterMany, .int z_rowMany, .int z_reading, .ref a_z_numbers, .int z_seed])), (a_z_s, .inl (cI, 45, .inl z_s))] H → va_S A s.heap H locs → W p l e rmX5_wrongFor s m args below meth c H locs 0 0 Q (F0 m pc ls [.int r']) := by
    intro pc H locs ls r' h hn hd hP hS
    cases h
    exact hret0 pc H locs ls hn hd hP hS
  have hl : lv_has ls 3 [(0, .ref a_z), (1, .int p0), (2, .int p1)] := hl
  have h := hf
  unfold fX5_wrongFor at h
  refine lv_aload_n hx hb dX5_wrongFor_0 rfl (lv_at hl 0 rfl) ?_
  refine lv_iload_n hx hb dX5_wrongFor_1 rfl (lv_at hl 1 rfl) ?_
  obtain ⟨r6, hk7, h⟩ := bd1_e h
  refine cV_i (rest := []) F (kX5_isPlace l D cI cJ H.size g a_z a_z_s a_z_m a_z_image a_z_was a_z_letters a_z_row a_z_refused a_z_numbers z_hasImage z_letterMany z_rowMany z_reading z_seed z_s p0 r6 hk7) (cwV 1 hts gX5_wrongFor_X5_isPlace rfl rfl rfl eVX5_isPlace ⟨Nat.le_of_ble_eq_true rfl, Nat.le_of_ble_eq_true rfl⟩) [0, 1] hP hS (by decide) rfl rfl 0 rfl rfl rfl hl.1 (Nat.le_of_ble_eq_true rfl) ⟨Nat.le_refl _, Nat.le_refl _⟩ rfl dX5_wrongFor_2 (fun H locs hP hS => ?_)
  have hP : WD D A [(a_z, .inr (5, [.ref a_z_s, .ref a_z_m, .ref a_z_image, .ref a_z_was, .int z_hasImage, .ref a_z_letters, .ref a_z_row, .ref a_z_refused, .int z_letterMany, .int z_rowMany, .int z_reading, .ref a_z_numbers, .int z_seed])), (a_z_s, .inl (cI, 45, .inl z_s))] H := hP
  refine lv_if_eq (tgt := 18) hx hb dX5_wrongFor_5 (by decide) (fun hc8 => ?_) (fun hc8 => ?_)
  · have h := it_p hc8 h
    refine lv_iconst (v := (-1)) hx hb dX5_wrongFor_18 (by decide) ?_
    exact hret 19 H locs ls (-1) h rfl dX5_wrongFor_19 hP hS
  · have h := it_n hc8 h
    refine lv_iload_n hx hb dX5_wrongFor_8 rfl (lv_at hl 2 rfl) ?_
    refine lv_iconst (v := 0) hx hb dX5_wrongFor_9 (by decide) ?_
    refine lv_bipush (v := 30) hx hb dX5_wrongFor_10 (by decide) ?_
    obtain ⟨r9, hk10, h⟩ := bd1_e h
    refine cS_i (rest := []) F (kX5_wrongBy l D cI cJ H.size g p1 0 30 r9 hk10) (va_cwS 3 hts gX5_wrongFor_X5_wrongBy rfl rfl rfl eSX5_wrongBy ⟨Nat.le_of_ble_eq_true rfl, Nat.le_of_ble_eq_true rfl⟩) [] hP hS (by decide) rfl rfl rfl hl.1 (Nat.le_of_ble_eq_true rfl) ⟨Nat.le_refl _, Nat.le_refl _⟩ rfl dX5_wrongFor_12 (fun H locs hP hS => ?_)
    have hP : WD D A [(a_z, .inr (5, [.ref a_z_s, .ref a_z_m, .ref a_z_image, .ref a_z_was, .int z_hasImage, .ref a_z_letters, .ref a_z_row, .ref a_z_refused, .int z_letterMany, .int z_rowMany, .int z_reading, .ref a_z_numbers, .int z_seed])), (a_z_s, .inl (cI, 45, .inl z_s))] H := hP
    refine lv_goto (tgt := 19) hx hb dX5_wrongFor_15 (by decide) ?_
    exact hret 19 H locs ls r9 h rfl dX5_wrongFor_19 hP hS
theorem eSX5_crew : yX5_crew.cls ≠ "java/lang/invoke/MethodHandle" ∧ yX5_crew.cls ≠ "java/lang/invoke/VarHandle" ∧ (parseMethodDescriptor yX5_crew.desc).map (fun d => d.parameters.length) = some 2 := by decide +kernel
theorem eVX5_crew : yX5_crew.cls = RX5 ∧ yX5_crew.cls ≠ "java/lang/invoke/MethodHandle" ∧ yX5_crew.cls ≠ "java/lang/invoke/VarHandle" ∧ (parseMethodDescriptor yX5_crew.desc).map (fun d => d.parameters.length) = some 2 := ⟨rfl, eSX5_crew⟩
abbrev rmX5_crew : Room := { frames := 7, cells := 0, slots := 0, locals := 158 }
def fX5_crew_L72_b (g : Nat) (x5_L72 : Int32) (z_s : Nat → Int32) (self : Int32 → (Nat → Int32) → Option ((Nat → Int32))) (x6_L72 : Int32) (z_m_L72 : Nat → Int32) : Option ((Nat → Int32)) := if (z_s 1) ≤ x6_L72 then (some z_m_L72) else (bd1 (fX5_of g x6_L72 4) fun r17 => (gd (inB r17 45) (self (x6_L72 + 1) (upd z_m_L72 r17.toNatClampNeg ((x5_L72 >>> (x6_L72 &&& 31)) &&& 1)))))
def fX5_crew_L72 (g : Nat) (x5_L72 : Int32) (z_s : Nat → Int32) (n : Nat) : Int32 → (Nat → Int32) → Option ((Nat → Int32)) := lp (fX5_crew_L72_b g x5_L72 z_s) (fun _ _ => none) n
def fX5_crew_L24_b (g : Nat) (x1_L24 : Int32) (x2_L24 : Int32) (z_s : Nat → Int32) (self : Int32 → Int32 → (Nat → Int32) → Option (Int32 × (Nat → Int32))) (x4_L24 : Int32) (x5_L24 : Int32) (z_m_L24 : Nat → Int32) : Option (Int32 × (Nat → Int32)) := if (1 <<< ((z_s 1) &&& 31)) ≤ x5_L24 then (some (x4_L24, z_m_L24)) else (if x4_L24 < 0 then (bd1 (fX5_copies g z_s z_m_L24) fun z_m_14 => (bd1 (fX5_crew_L72 g x5_L24 z_s g 0 z_m_14) fun t20 => (gd (inB (4 + x1_L24) 45) (bd2 (fX5_comesIn g (z_s (4 + x1_L24).toNatClampNeg) x2_L24 t20) fun r22 z_m_23 => (if r22 < 0 then (self x4_L24 (x5_L24 + 1) z_m_23) else (self x5_L24 (x5_L24 + 1) z_m_23)))))) else (bd1 (fX5_bits g x5_L24) fun r28 => (bd1 (fX5_bits g x4_L24) fun r30 => (if r28 < r30 then (bd1 (fX5_copies g z_s z_m_L24) fun z_m_33 => (bd1 (fX5_crew_L72 g x5_L24 z_s g 0 z_m_33) fun t35 => (gd (inB (4 + x1_L24) 45) (bd2 (fX5_comesIn g (z_s (4 + x1_L24).toNatClampNeg) x2_L24 t35) fun r37 z_m_38 => (if r37 < 0 then (self x4_L24 (x5_L24 + 1) z_m_38) else (self x5_L24 (x5_L24 + 1) z_m_38)))))) else (self x4_L24 (x5_L24 + 1) z_m_L24)))))
def fX5_crew_L24 (g : Nat) (x1_L24 : Int32) (x2_L24 : Int32) (z_s : Nat → Int32) (n : Nat) : Int32 → Int32 → (Nat → Int32) → Option (Int32 × (Nat → Int32)) := lp (fX5_crew_L24_b g x1_L24 x2_L24 z_s) (fun _ _ _ => none) n
def fX5_crew (g : Nat) (p0 : Int32) (p1 : Int32) (z_s : Nat → Int32) (z_m : Nat → Int32) (z_refused : Nat → Int32) : Option (Int32 × (Nat → Int32) × (Nat → Int32)) := bd1 (fX5_wrongFor g p0 p1 z_s) fun r9 => (if r9 = 0 then (bd2 (fX5_crew_L24 g p0 p1 z_s g (-9) 0 z_m) fun t43 t44 => (some (t43, t44, z_refused))) else (bd2 (fX5_no g r9 z_refused) fun r47 z_refused_48 => (some (r47, z_m, z_refused_48))))
set_option maxHeartbeats 4000000 in
set_option maxRecDepth 100000 in
theorem kX5_crew (l : Launch) (D : va_G) (cI cJ : ClassId) (sz g : Nat) (a_z a_z_s a_z_m a_z_image a_z_was a_z_letters a_z_row a_z_refused a_z_numbers : Nat) (z_hasImage : Int32) (z_letterMany : Int32) (z_rowMany : Int32) (z_reading : Int32) (z_seed : Int32) (z_s : Nat → Int32) (z_m : Nat → Int32) (z_refused : Nat → Int32) (p0 : Int32) (p1 : Int32) (r : Int32) (n_z_m : Nat → Int32) (n_z_refused : Nat → Int32) (hf : fX5_crew g p0 p1 z_s z_m z_refused = some (r, n_z_m, n_z_refused)) : Met l yX5_crew wsX5_crew rmX5_crew (va_Pc [.ref a_z, .int p0, .int p1] (sPc D (tyL cI cJ) [(a_z, .inr (5, [.ref a_z_s, .ref a_z_m, .ref a_z_image, .ref a_z_was, .int z_hasImage, .ref a_z_letters, .ref a_z_row, .ref a_z_refused, .int z_letterMany, .int z_rowMany, .int z_reading, .ref a_z_numbers, .int z_seed])), (a_z_s, .inl (cI, 45, .inl z_s)), (a_z_m, .inl (cI, 45, .inl z_m)), (a_z_refused, .inl (cI, 7, .inl z_refused))] sz)) (qI D (tyL cI cJ) [(a_z, .inr (5, [.ref a_z_s, .ref a_z_m, .ref a_z_image, .ref a_z_was, .int z_hasImage, .ref a_z_letters, .ref a_z_row, .ref a_z_refused, .int z_letterMany, .int z_rowMany, .int z_reading, .ref a_z_numbers, .int z_seed])), (a_z_s, .inl (cI, 45, .inl z_s)), (a_z_m, .inl (cI, 45, .inl z_m)), (a_z_refused, .inl (cI, 7, .inl z_refused))] sz [(a_z, .inr (5, [.ref a_z_s, .ref a_z_m, .ref a_z_image, .ref a_z_was, .int z_hasImage, .ref a_z_letters, .ref a_z_row, .ref a_z_refused, .int z_letterMany, .int z_rowMany, .int z_reading, .ref a_z_numbers, .int z_seed])), (a_z_s, .inl (cI, 45, .inl z_s)), (a_z_m, .inl (cI, 45, .inl n_z_m)), (a_z_refused, .inl (cI, 7, .inl n_z_refused))] r) 0 0 (va_A [(a_z, .inr (5, [.ref a_z_s, .ref a_z_m, .ref a_z_image, .ref a_z_was, .int z_hasImage, .ref a_z_letters, .ref a_z_row, .ref a_z_refused, .int z_letterMany, .int z_rowMany, .int z_reading, .ref a_z_numbers, .int z_seed])), (a_z_s, .inl (cI, 45, .inl z_s)), (a_z_m, .inl (cI, 45, .inl z_m)), (a_z_refused, .inl (cI, 7, .inl z_refused))] sz) := by
  refine st_i (cc := cX5_crew) (maxL := 7) (by decide) rfl (Nat.le_of_ble_eq_true rfl) ?_
  intro p e s m args below meth c A Q F hret0 H locs hP hS ls hl
  have F : Cx p s m args c cX5_crew 7 wsX5_crew RX5 D (tyL cI cJ) A := F
  have hx := F.1.1
  have hb := F.1.2.1
  have hown := F.1.2.2.2.1
  have hts := F.1.2.2.2.2
  have iX5 : ∀ w ∈ wsX50, w ∈ wsX5_crew := fun w h => (List.mem_cons_of_mem _ (List.mem_append_right _ h))
  have hret : ∀ (pc : Nat) (H : Heap) (locs : List Loc) (ls : Array Slot) (r' : Int32) (m_z_m : Nat → Int32) (m_z_refused : Nat → Int32), some (r', m_z_m, m_z_refused) = some (r, n_z_m, n_z_refused) → narrow .int (.int r') = .int r' → decode cX5_crew pc = .ok (.ireturn, 1) → WD D A [(a_z, .inr (5, [.ref a_z_s, .ref a_z_m, .ref a_z_image, .ref a_z_was, .int z_hasImage, .ref a_z_letters, .ref a_z_row, .ref a_z_refused, .int z_letterMany, .int z_rowMany, .int z_reading, .ref a_z_numbers, .int z_seed])), (a_z_s, .inl (cI, 45, .inl z_s)), (a_z_m, .inl (cI, 45, .inl m_z_m)), (a_z_refused, .inl (cI, 7, .inl m_z_refused))] H → va_S A s.heap H locs → W p l e rmX5_crew s m args below meth c H locs 0 0 Q (F0 m pc ls [.int r']) := by
    intro pc H locs ls r' m_z_m m_z_refused h hn hd hP hS
    cases h
    exact hret0 pc H locs ls hn hd hP hS
  have L72 : ∀ (x1_L72 : Int32) (x2_L72 : Int32) (x4_L72 : Int32) (x5_L72 : Int32) (z_refused_L72 : Nat → Int32) (n : Nat) (x6_L72 : Int32) (z_m_L72 : Nat → Int32) (tt0 : Nat → Int32) (H : Heap) (locs : List Loc) (ls : Array Slot), fX5_crew_L72 g x5_L72 z_s n x6_L72 z_m_L72 = some tt0 → WD D A [(a_z, .inr (5, [.ref a_z_s, .ref a_z_m, .ref a_z_image, .ref a_z_was, .int z_hasImage, .ref a_z_letters, .ref a_z_row, .ref a_z_refused, .int z_letterMany, .int z_rowMany, .int z_reading, .ref a_z_numbers, .int z_seed])), (a_z_s, .inl (cI, 45, .inl z_s)), (a_z_m, .inl (cI, 45, .inl z_m_L72)), (a_z_refused, .inl (cI, 7, .inl z_refused_L72))] H → va_S A s.heap H locs → lv_has ls 7 [(0, .ref a_z), (1, .int x1_L72), (2, .int x2_L72), (4, .int x4_L72), (5, .int x5_L72), (6, .int x6_L72)] → (∀ (H : Heap) (locs : List Loc) (ls : Array Slot), WD D A [(a_z, .inr (5, [.ref a_z_s, .ref a_z_m, .ref a_z_image, .ref a_z_was, .int z_hasImage, .ref a_z_letters, .ref a_z_row, .ref a_z_refused, .int z_letterMany, .int z_rowMany, .int z_reading, .ref a_z_numbers, .int z_seed])), (a_z_s, .inl (cI, 45, .inl z_s)), (a_z_m, .inl (cI, 45, .inl tt0)), (a_z_refused, .inl (cI, 7, .inl z_refused_L72))] H → va_S A s.heap H locs → lv_has ls 7 [(0, .ref a_z), (1, .int x1_L72), (2, .int x2_L72), (4, .int x4_L72), (5, .int x5_L72)] → W p l e rmX5_crew s m args below meth c H locs 0 0 Q (F0 m 107 ls [])) → W p l e rmX5_crew s m args below meth c H locs 0 0 Q (F0 m 72 ls []) := by
    intro x1_L72 x2_L72 x4_L72 x5_L72 z_refused_L72 n
    induction n with
    | zero =>
      intro x6_L72 z_m_L72 tt0 H locs ls h
      exact (no_some h).elim
    | succ n ih =>
      intro x6_L72 z_m_L72 tt0 H locs ls h hP hS hl kE
      have h : fX5_crew_L72_b g x5_L72 z_s (fX5_crew_L72 g x5_L72 z_s n) x6_L72 z_m_L72 = some tt0 := h
      unfold fX5_crew_L72_b at h
      refine lv_iload hx hb dX5_crew_72 (lv_at hl 5 rfl) ?_
      refine lv_aload_n hx hb dX5_crew_74 rfl (lv_at hl 0 rfl) ?_
      refine gt_X5_9 F iX5 (List.mem_cons_of_mem _ (List.mem_append_left _ (List.mem_append_left _ (List.mem_of_getElem? (i := 0) rfl)))) hP 0 rfl dX5_crew_75 ?_
      refine lv_iconst (v := 1) hx hb dX5_crew_78 (by decide) ?_
      refine r_ia F hP 1 rfl (j := 1) rfl (by decide) dX5_crew_79 ?_
      refine lv_icmp_ge (tgt := 107) hx hb dX5_crew_80 (by decide) (fun hc16 => ?_) (fun hc16 => ?_)
      · have h := it_p hc16 h
        cases h
        exact kE H locs ls hP hS (lv_sub hl [0, 1, 2, 3, 4] rfl)
      · have h := it_n hc16 h
        refine lv_aload_n hx hb dX5_crew_83 rfl (lv_at hl 0 rfl) ?_
        refine gt_X5_13 F iX5 (List.mem_cons_of_mem _ (List.mem_append_left _ (List.mem_append_left _ (List.mem_of_getElem? (i := 1) rfl)))) hP 0 rfl dX5_crew_84 ?_
        refine lv_iload hx hb dX5_crew_87 (lv_at hl 5 rfl) ?_
        refine lv_iconst (v := 4) hx hb dX5_crew_89 (by decide) ?_
        obtain ⟨r17, hk18, h⟩ := bd1_e h
        refine cS_i (rest := [.ref a_z_m]) F (kX5_of l D cI cJ H.size g x6_L72 4 r17 hk18) (va_cwS 2 hts gX5_crew_X5_of rfl rfl rfl eSX5_of ⟨Nat.le_of_ble_eq_true rfl, Nat.le_of_ble_eq_true rfl⟩) [] hP hS (by decide) rfl rfl rfl hl.1 (Nat.le_of_ble_eq_true rfl) ⟨Nat.le_refl _, Nat.le_refl _⟩ rfl dX5_crew_90 (fun H locs hP hS => ?_)
        have hP : WD D A [(a_z, .inr (5, [.ref a_z_s, .ref a_z_m, .ref a_z_image, .ref a_z_was, .int z_hasImage, .ref a_z_letters, .ref a_z_row, .ref a_z_refused, .int z_letterMany, .int z_rowMany, .int z_reading, .ref a_z_numbers, .int z_seed])), (a_z_s, .inl (cI, 45, .inl z_s)), (a_z_m, .inl (cI, 45, .inl z_m_L72)), (a_z_refused, .inl (cI, 7, .inl z_refused_L72))] H := hP
        refine lv_iload hx hb dX5_crew_93 (lv_at hl 4 rfl) ?_
        refine lv_iload hx hb dX5_crew_95 (lv_at hl 5 rfl) ?_
        refine lv_ishr hx hb dX5_crew_97 ?_
        refine lv_iconst (v := 1) hx hb dX5_crew_98 (by decide) ?_
        refine lv_iand hx hb dX5_crew_99 ?_
        obtain ⟨hg19, h⟩ := gd_e h
        refine r_is F hP hS 2 rfl rfl hg19 dX5_crew_100 (fun H locs hP hS => ?_)
        have hP : WD D A [(a_z, .inr (5, [.ref a_z_s, .ref a_z_m, .ref a_z_image, .ref a_z_was, .int z_hasImage, .ref a_z_letters, .ref a_z_row, .ref a_z_refused, .int z_letterMany, .int z_rowMany, .int z_reading, .ref a_z_numbers, .int z_seed])), (a_z_s, .inl (cI, 45, .inl z_s)), (a_z_m, .inl (cI, 45, .inl (upd z_m_L72 r17.toNatClampNeg ((x5_L72 >>> (x6_L72 &&& 31)) &&& 1)))), (a_z_refused, .inl (cI, 7, .inl z_refused_L72))] H := hP
        refine lv_iinc (v := x6_L72 + 1) (lv' := [(6, .int (x6_L72 + 1)), (0, .ref a_z), (1, .int x1_L72), (2, .int x2_L72), (4, .int x4_L72), (5, .int x5_L72)]) hx hb dX5_crew_101 hl (k := 5) rfl rfl (by decide) rfl (fun ls hl => ?_)
        refine lv_goto (tgt := 72) hx hb dX5_crew_104 (by decide) ?_
        exact ih (x6_L72 + 1) (upd z_m_L72 r17.toNatClampNeg ((x5_L72 >>> (x6_L72 &&& 31)) &&& 1)) tt0 H locs ls h hP hS (lv_sub hl [1, 2, 3, 4, 5, 0] rfl) kE
  have L24 : ∀ (x1_L24 : Int32) (x2_L24 : Int32) (z_refused_L24 : Nat → Int32) (n : Nat) (x4_L24 : Int32) (x5_L24 : Int32) (z_m_L24 : Nat → Int32) (tt0 : Int32) (tt1 : Nat → Int32) (H : Heap) (locs : List Loc) (ls : Array Slot), fX5_crew_L24 g x1_L24 x2_L24 z_s n x4_L24 x5_L24 z_m_L24 = some (tt0, tt1) → WD D A [(a_z, .inr (5, [.ref a_z_s, .ref a_z_m, .ref a_z_image, .ref a_z_was, .int z_hasImage, .ref a_z_letters, .ref a_z_row, .ref a_z_refused, .int z_letterMany, .int z_rowMany, .int z_reading, .ref a_z_numbers, .int z_seed])), (a_z_s, .inl (cI, 45, .inl z_s)), (a_z_m, .inl (cI, 45, .inl z_m_L24)), (a_z_refused, .inl (cI, 7, .inl z_refused_L24))] H → va_S A s.heap H locs → lv_has ls 7 [(0, .ref a_z), (1, .int x1_L24), (2, .int x2_L24), (4, .int x4_L24), (5, .int x5_L24)] → (∀ (H : Heap) (locs : List Loc) (ls : Array Slot), WD D A [(a_z, .inr (5, [.ref a_z_s, .ref a_z_m, .ref a_z_image, .ref a_z_was, .int z_hasImage, .ref a_z_letters, .ref a_z_row, .ref a_z_refused, .int z_letterMany, .int z_rowMany, .int z_reading, .ref a_z_numbers, .int z_seed])), (a_z_s, .inl (cI, 45, .inl z_s)), (a_z_m, .inl (cI, 45, .inl tt1)), (a_z_refused, .inl (cI, 7, .inl z_refused_L24))] H → va_S A s.heap H locs → lv_has ls 7 [(4, .int tt0)] → W p l e rmX5_crew s m args below meth c H locs 0 0 Q (F0 m 133 ls [])) → W p l e rmX5_crew s m args below meth c H locs 0 0 Q (F0 m 24 ls []) := by
    intro x1_L24 x2_L24 z_refused_L24 n
    induction n with
    | zero =>
      intro x4_L24 x5_L24 z_m_L24 tt0 tt1 H locs ls h
      exact (no_some h).elim
    | succ n ih =>
      intro x4_L24 x5_L24 z_m_L24 tt0 tt1 H locs ls h hP hS hl kE
      have h : fX5_crew_L24_b g x1_L24 x2_L24 z_s (fX5_crew_L24 g x1_L24 x2_L24 z_s n) x4_L24 x5_L24 z_m_L24 = some (tt0, tt1) := h
      unfold fX5_crew_L24_b at h
      refine lv_iload hx hb dX5_crew_24 (lv_at hl 4 rfl) ?_
      refine lv_iconst (v := 1) hx hb dX5_crew_26 (by decide) ?_
      refine lv_aload_n hx hb dX5_crew_27 rfl (lv_at hl 0 rfl) ?_
      refine gt_X5_9 F iX5 (List.mem_cons_of_mem _ (List.mem_append_left _ (List.mem_append_left _ (List.mem_of_getElem? (i := 0) rfl)))) hP 0 rfl dX5_crew_28 ?_
      refine lv_iconst (v := 1) hx hb dX5_crew_31 (by decide) ?_
      refine r_ia F hP 1 rfl (j := 1) rfl (by decide) dX5_crew_32 ?_
      refine lv_ishl hx hb dX5_crew_33 ?_
      refine lv_icmp_ge (tgt := 133) hx hb dX5_crew_34 (by decide) (fun hc12 => ?_) (fun hc12 => ?_)
      · have h := it_p hc12 h
        cases h
        exact kE H locs ls hP hS (lv_sub hl [3] rfl)
      · have h := it_n hc12 h
        refine lv_iload hx hb dX5_crew_37 (lv_at hl 3 rfl) ?_
        refine lv_if_lt (tgt := 58) hx hb dX5_crew_39 (by decide) (fun hc13 => ?_) (fun hc13 => ?_)
        · have h := it_p hc13 h
          refine lv_aload_n hx hb dX5_crew_58 rfl (lv_at hl 0 rfl) ?_
          refine gt_X5_9 F iX5 (List.mem_cons_of_mem _ (List.mem_append_left _ (List.mem_append_left _ (List.mem_of_getElem? (i := 0) rfl)))) hP 0 rfl dX5_crew_59 ?_
          refine lv_aload_n hx hb dX5_crew_62 rfl (lv_at hl 0 rfl) ?_
          refine gt_X5_13 F iX5 (List.mem_cons_of_mem _ (List.mem_append_left _ (List.mem_append_left _ (List.mem_of_getElem? (i := 1) rfl)))) hP 0 rfl dX5_crew_63 ?_
          obtain ⟨z_m_14, hk15, h⟩ := bd1_e h
          refine cS_v (rest := []) F (kX5_copies l D cI cJ H.size g a_z_s a_z_m z_s z_m_L24 z_m_14 hk15) (va_cwS 2 hts gX5_crew_X5_copies rfl rfl rfl eSX5_copies ⟨Nat.le_of_ble_eq_true rfl, Nat.le_of_ble_eq_true rfl⟩) [1, 2] hP hS (by decide) rfl rfl rfl hl.1 (Nat.le_of_ble_eq_true rfl) ⟨Nat.le_refl _, Nat.le_refl _⟩ rfl dX5_crew_66 (fun H locs hP hS => ?_)
          have hP : WD D A [(a_z, .inr (5, [.ref a_z_s, .ref a_z_m, .ref a_z_image, .ref a_z_was, .int z_hasImage, .ref a_z_letters, .ref a_z_row, .ref a_z_refused, .int z_letterMany, .int z_rowMany, .int z_reading, .ref a_z_numbers, .int z_seed])), (a_z_s, .inl (cI, 45, .inl z_s)), (a_z_m, .inl (cI, 45, .inl z_m_14)), (a_z_refused, .inl (cI, 7, .inl z_refused_L24))] H := hP
          refine lv_iconst (v := 0) hx hb dX5_crew_69 (by decide) ?_
          refine lv_istore (lv' := [(6, .int 0), (0, .ref a_z), (1, .int x1_L24), (2, .int x2_L24), (4, .int x4_L24), (5, .int x5_L24)]) hx hb dX5_crew_70 hl (by decide) rfl (fun ls hl => ?_)
          obtain ⟨t20, hk26, h⟩ := bd1_e h
          refine L72 x1_L24 x2_L24 x4_L24 x5_L24 z_refused_L24 g 0 z_m_14 t20 H locs ls hk26 hP hS (lv_sub hl [1, 2, 3, 4, 5, 0] rfl) (fun H locs ls hP hS hl => ?_)
          refine lv_aload_n hx hb dX5_crew_107 rfl (lv_at hl 0 rfl) ?_
          refine lv_aload_n hx hb dX5_crew_108 rfl (lv_at hl 0 rfl) ?_
          refine gt_X5_9 F iX5 (List.mem_cons_of_mem _ (List.mem_append_left _ (List.mem_append_left _ (List.mem_of_getElem? (i := 0) rfl)))) hP 0 rfl dX5_crew_109 ?_
          refine lv_iconst (v := 4) hx hb dX5_crew_112 (by decide) ?_
          refine lv_iload_n hx hb dX5_crew_113 rfl (lv_at hl 1 rfl) ?_
          refine lv_iadd hx hb dX5_crew_114 ?_
          obtain ⟨hg21, h⟩ := gd_e h
          refine r_ia F hP 1 rfl rfl hg21 dX5_crew_115 ?_
          refine lv_iload_n hx hb dX5_crew_116 rfl (lv_at hl 2 rfl) ?_
          obtain ⟨r22, z_m_23, hk24, h⟩ := bd2_e h
          refine cV_i (rest := []) F (kX5_comesIn l D cI cJ H.size g a_z a_z_s a_z_m a_z_image a_z_was a_z_letters a_z_row a_z_refused a_z_numbers z_hasImage z_letterMany z_rowMany z_reading z_seed t20 (z_s (4 + x1_L24).toNatClampNeg) x2_L24 r22 z_m_23 hk24) (cwV 2 hts gX5_crew_X5_comesIn rfl rfl rfl eVX5_comesIn ⟨Nat.le_of_ble_eq_true rfl, Nat.le_of_ble_eq_true rfl⟩) [0, 2] hP hS (by decide) rfl rfl 0 rfl rfl rfl hl.1 (Nat.le_of_ble_eq_true rfl) ⟨Nat.le_refl _, Nat.le_refl _⟩ rfl dX5_crew_117 (fun H locs hP hS => ?_)
          have hP : WD D A [(a_z, .inr (5, [.ref a_z_s, .ref a_z_m, .ref a_z_image, .ref a_z_was, .int z_hasImage, .ref a_z_letters, .ref a_z_row, .ref a_z_refused, .int z_letterMany, .int z_rowMany, .int z_reading, .ref a_z_numbers, .int z_seed])), (a_z_s, .inl (cI, 45, .inl z_s)), (a_z_m, .inl (cI, 45, .inl z_m_23)), (a_z_refused, .inl (cI, 7, .inl z_refused_L24))] H := hP
          refine lv_if_lt (tgt := 127) hx hb dX5_crew_120 (by decide) (fun hc25 => ?_) (fun hc25 => ?_)
          · have h := it_p hc25 h
            refine lv_iinc (v := x5_L24 + 1) (lv' := [(5, .int (x5_L24 + 1)), (0, .ref a_z), (1, .int x1_L24), (2, .int x2_L24), (4, .int x4_L24)]) hx hb dX5_crew_127 hl (k := 4) rfl rfl (by decide) rfl (fun ls hl => ?_)
            refine lv_goto (tgt := 24) hx hb dX5_crew_130 (by decide) ?_
            exact ih x4_L24 (x5_L24 + 1) z_m_23 tt0 tt1 H locs ls h hP hS (lv_sub hl [1, 2, 3, 4, 0] rfl) kE
          · have h := it_n hc25 h
            refine lv_iload hx hb dX5_crew_123 (lv_at hl 4 rfl) ?_
            refine lv_istore (lv' := [(4, .int x5_L24), (0, .ref a_z), (1, .int x1_L24), (2, .int x2_L24), (5, .int x5_L24)]) hx hb dX5_crew_125 hl (by decide) rfl (fun ls hl => ?_)
            refine lv_iinc (v := x5_L24 + 1) (lv' := [(5, .int (x5_L24 + 1)), (4, .int x5_L24), (0, .ref a_z), (1, .int x1_L24), (2, .int x2_L24)]) hx hb dX5_crew_127 hl (k := 4) rfl rfl (by decide) rfl (fun ls hl => ?_)
            refine lv_goto (tgt := 24) hx hb dX5_crew_130 (by decide) ?_
            exact ih x5_L24 (x5_L24 + 1) z_m_23 tt0 tt1 H locs ls h hP hS (lv_sub hl [2, 3, 4, 1, 0] rfl) kE
        · have h := it_n hc13 h
          refine lv_iload hx hb dX5_crew_42 (lv_at hl 4 rfl) ?_
          obtain ⟨r28, hk29, h⟩ := bd1_e h
          refine cS_i (rest := []) F (kX5_bits l D cI cJ H.size g x5_L24 r28 hk29) (va_cwS 1 hts gX5_crew_X5_bits rfl rfl rfl eSX5_bits ⟨Nat.le_of_ble_eq_true rfl, Nat.le_of_ble_eq_true rfl⟩) [] hP hS (by decide) rfl rfl rfl hl.1 (Nat.le_of_ble_eq_true rfl) ⟨Nat.le_refl _, Nat.le_refl _⟩ rfl dX5_crew_44 (fun H locs hP hS => ?_)
          have hP : WD D A [(a_z, .inr (5, [.ref a_z_s, .ref a_z_m, .ref a_z_image, .ref a_z_was, .int z_hasImage, .ref a_z_letters, .ref a_z_row, .ref a_z_refused, .int z_letterMany, .int z_rowMany, .int z_reading, .ref a_z_numbers, .int z_seed])), (a_z_s, .inl (cI, 45, .inl z_s)), (a_z_m, .inl (cI, 45, .inl z_m_L24)), (a_z_refused, .inl (cI, 7, .inl z_refused_L24))] H := hP
          refine lv_iload hx hb dX5_crew_47 (lv_at hl 3 rfl) ?_
          obtain ⟨r30, hk31, h⟩ := bd1_e h
          refine cS_i (rest := [.int r28]) F (kX5_bits l D cI cJ H.size g x4_L24 r30 hk31) (va_cwS 1 hts gX5_crew_X5_bits rfl rfl rfl eSX5_bits ⟨Nat.le_of_ble_eq_true rfl, Nat.le_of_ble_eq_true rfl⟩) [] hP hS (by decide) rfl rfl rfl hl.1 (Nat.le_of_ble_eq_true rfl) ⟨Nat.le_refl _, Nat.le_refl _⟩ rfl dX5_crew_49 (fun H locs hP hS => ?_)
          have hP : WD D A [(a_z, .inr (5, [.ref a_z_s, .ref a_z_m, .ref a_z_image, .ref a_z_was, .int z_hasImage, .ref a_z_letters, .ref a_z_row, .ref a_z_refused, .int z_letterMany, .int z_rowMany, .int z_reading, .ref a_z_numbers, .int z_seed])), (a_z_s, .inl (cI, 45, .inl z_s)), (a_z_m, .inl (cI, 45, .inl z_m_L24)), (a_z_refused, .inl (cI, 7, .inl z_refused_L24))] H := hP
          refine lv_icmp_lt (tgt := 58) hx hb dX5_crew_52 (by decide) (fun hc32 => ?_) (fun hc32 => ?_)
          · have h := it_p hc32 h
            refine lv_aload_n hx hb dX5_crew_58 rfl (lv_at hl 0 rfl) ?_
            refine gt_X5_9 F iX5 (List.mem_cons_of_mem _ (List.mem_append_left _ (List.mem_append_left _ (List.mem_of_getElem? (i := 0) rfl)))) hP 0 rfl dX5_crew_59 ?_
            refine lv_aload_n hx hb dX5_crew_62 rfl (lv_at hl 0 rfl) ?_
            refine gt_X5_13 F iX5 (List.mem_cons_of_mem _ (List.mem_append_left _ (List.mem_append_left _ (List.mem_of_getElem? (i := 1) rfl)))) hP 0 rfl dX5_crew_63 ?_
            obtain ⟨z_m_33, hk34, h⟩ := bd1_e h
            refine cS_v (rest := []) F (kX5_copies l D cI cJ H.size g a_z_s a_z_m z_s z_m_L24 z_m_33 hk34) (va_cwS 2 hts gX5_crew_X5_copies rfl rfl rfl eSX5_copies ⟨Nat.le_of_ble_eq_true rfl, Nat.le_of_ble_eq_true rfl⟩) [1, 2] hP hS (by decide) rfl rfl rfl hl.1 (Nat.le_of_ble_eq_true rfl) ⟨Nat.le_refl _, Nat.le_refl _⟩ rfl dX5_crew_66 (fun H locs hP hS => ?_)
            have hP : WD D A [(a_z, .inr (5, [.ref a_z_s, .ref a_z_m, .ref a_z_image, .ref a_z_was, .int z_hasImage, .ref a_z_letters, .ref a_z_row, .ref a_z_refused, .int z_letterMany, .int z_rowMany, .int z_reading, .ref a_z_numbers, .int z_seed])), (a_z_s, .inl (cI, 45, .inl z_s)), (a_z_m, .inl (cI, 45, .inl z_m_33)), (a_z_refused, .inl (cI, 7, .inl z_refused_L24))] H := hP
            refine lv_iconst (v := 0) hx hb dX5_crew_69 (by decide) ?_
            refine lv_istore (lv' := [(6, .int 0), (0, .ref a_z), (1, .int x1_L24), (2, .int x2_L24), (4, .int x4_L24), (5, .int x5_L24)]) hx hb dX5_crew_70 hl (by decide) rfl (fun ls hl => ?_)
            obtain ⟨t35, hk41, h⟩ := bd1_e h
            refine L72 x1_L24 x2_L24 x4_L24 x5_L24 z_refused_L24 g 0 z_m_33 t35 H locs ls hk41 hP hS (lv_sub hl [1, 2, 3, 4, 5, 0] rfl) (fun H locs ls hP hS hl => ?_)
            refine lv_aload_n hx hb dX5_crew_107 rfl (lv_at hl 0 rfl) ?_
            refine lv_aload_n hx hb dX5_crew_108 rfl (lv_at hl 0 rfl) ?_
            refine gt_X5_9 F iX5 (List.mem_cons_of_mem _ (List.mem_append_left _ (List.mem_append_left _ (List.mem_of_getElem? (i := 0) rfl)))) hP 0 rfl dX5_crew_109 ?_
            refine lv_iconst (v := 4) hx hb dX5_crew_112 (by decide) ?_
            refine lv_iload_n hx hb dX5_crew_113 rfl (lv_at hl 1 rfl) ?_
            refine lv_iadd hx hb dX5_crew_114 ?_
            obtain ⟨hg36, h⟩ := gd_e h
            refine r_ia F hP 1 rfl rfl hg36 dX5_crew_115 ?_
            refine lv_iload_n hx hb dX5_crew_116 rfl (lv_at hl 2 rfl) ?_
            obtain ⟨r37, z_m_38, hk39, h⟩ := bd2_e h
            refine cV_i (rest := []) F (kX5_comesIn l D cI cJ H.size g a_z a_z_s a_z_m a_z_image a_z_was a_z_letters a_z_row a_z_refused a_z_numbers z_hasImage z_letterMany z_rowMany z_reading z_seed t35 (z_s (4 + x1_L24).toNatClampNeg) x2_L24 r37 z_m_38 hk39) (cwV 2 hts gX5_crew_X5_comesIn rfl rfl rfl eVX5_comesIn ⟨Nat.le_of_ble_eq_true rfl, Nat.le_of_ble_eq_true rfl⟩) [0, 2] hP hS (by decide) rfl rfl 0 rfl rfl rfl hl.1 (Nat.le_of_ble_eq_true rfl) ⟨Nat.le_refl _, Nat.le_refl _⟩ rfl dX5_crew_117 (fun H locs hP hS => ?_)
            have hP : WD D A [(a_z, .inr (5, [.ref a_z_s, .ref a_z_m, .ref a_z_image, .ref a_z_was, .int z_hasImage, .ref a_z_letters, .ref a_z_row, .ref a_z_refused, .int z_letterMany, .int z_rowMany, .int z_reading, .ref a_z_numbers, .int z_seed])), (a_z_s, .inl (cI, 45, .inl z_s)), (a_z_m, .inl (cI, 45, .inl z_m_38)), (a_z_refused, .inl (cI, 7, .inl z_refused_L24))] H := hP
            refine lv_if_lt (tgt := 127) hx hb dX5_crew_120 (by decide) (fun hc40 => ?_) (fun hc40 => ?_)
            · have h := it_p hc40 h
              refine lv_iinc (v := x5_L24 + 1) (lv' := [(5, .int (x5_L24 + 1)), (0, .ref a_z), (1, .int x1_L24), (2, .int x2_L24), (4, .int x4_L24)]) hx hb dX5_crew_127 hl (k := 4) rfl rfl (by decide) rfl (fun ls hl => ?_)
              refine lv_goto (tgt := 24) hx hb dX5_crew_130 (by decide) ?_
              exact ih x4_L24 (x5_L24 + 1) z_m_38 tt0 tt1 H locs ls h hP hS (lv_sub hl [1, 2, 3, 4, 0] rfl) kE
            · have h := it_n hc40 h
              refine lv_iload hx hb dX5_crew_123 (lv_at hl 4 rfl) ?_
              refine lv_istore (lv' := [(4, .int x5_L24), (0, .ref a_z), (1, .int x1_L24), (2, .int x2_L24), (5, .int x5_L24)]) hx hb dX5_crew_125 hl (by decide) rfl (fun ls hl => ?_)
              refine lv_iinc (v := x5_L24 + 1) (lv' := [(5, .int (x5_L24 + 1)), (4, .int x5_L24), (0, .ref a_z), (1, .int x1_L24), (2, .int x2_L24)]) hx hb dX5_crew_127 hl (k := 4) rfl rfl (by decide) rfl (fun ls hl => ?_)
              refine lv_goto (tgt := 24) hx hb dX5_crew_130 (by decide) ?_
              exact ih x5_L24 (x5_L24 + 1) z_m_38 tt0 tt1 H locs ls h hP hS (lv_sub hl [2, 3, 4, 1, 0] rfl) kE
          · have h := it_n hc32 h
            refine lv_goto (tgt := 127) hx hb dX5_crew_55 (by decide) ?_
            refine lv_iinc (v := x5_L24 + 1) (lv' := [(5, .int (x5_L24 + 1)), (0, .ref a_z), (1, .int x1_L24), (2, .int x2_L24), (4, .int x4_L24)]) hx hb dX5_crew_127 hl (k := 4) rfl rfl (by decide) rfl (fun ls hl => ?_)
            refine lv_goto (tgt := 24) hx hb dX5_crew_130 (by decide) ?_
            exact ih x4_L24 (x5_L24 + 1) z_m_L24 tt0 tt1 H locs ls h hP hS (lv_sub hl [1, 2, 3, 4, 0] rfl) kE
  have hl : lv_has ls 7 [(0, .ref a_z), (1, .int p0), (2, .int p1)] := hl
  have h := hf
  unfold fX5_crew at h
  refine lv_aload_n hx hb dX5_crew_0 rfl (lv_at hl 0 rfl) ?_
  refine lv_iload_n hx hb dX5_crew_1 rfl (lv_at hl 1 rfl) ?_
  refine lv_iload_n hx hb dX5_crew_2 rfl (lv_at hl 2 rfl) ?_
  obtain ⟨r9, hk10, h⟩ := bd1_e h
  refine cV_i (rest := []) F (kX5_wrongFor l D cI cJ H.size g a_z a_z_s a_z_m a_z_image a_z_was a_z_letters a_z_row a_z_refused a_z_numbers z_hasImage z_letterMany z_rowMany z_reading z_seed z_s p0 p1 r9 hk10) (cwV 2 hts gX5_crew_X5_wrongFor rfl rfl rfl eVX5_wrongFor ⟨Nat.le_of_ble_eq_true rfl, Nat.le_of_ble_eq_true rfl⟩) [0, 1] hP hS (by decide) rfl rfl 0 rfl rfl rfl hl.1 (Nat.le_of_ble_eq_true rfl) ⟨Nat.le_refl _, Nat.le_refl _⟩ rfl dX5_crew_3 (fun H locs hP hS => ?_)
  have hP : WD D A [(a_z, .inr (5, [.ref a_z_s, .ref a_z_m, .ref a_z_image, .ref a_z_was, .int z_hasImage, .ref a_z_letters, .ref a_z_row, .ref a_z_refused, .int z_letterMany, .int z_rowMany, .int z_reading, .ref a_z_numbers, .int z_seed])), (a_z_s, .inl (cI, 45, .inl z_s)), (a_z_m, .inl (cI, 45, .inl z_m)), (a_z_refused, .inl (cI, 7, .inl z_refused))] H := hP
  refine lv_istore_n (lv' := [(3, .int r9), (0, .ref a_z), (1, .int p0), (2, .int p1)]) hx hb dX5_crew_6 rfl hl (by decide) rfl (fun ls hl => ?_)
  refine lv_iload_n hx hb dX5_crew_7 rfl (lv_at hl 0 rfl) ?_
  refine lv_if_eq (tgt := 17) hx hb dX5_crew_8 (by decide) (fun hc11 => ?_) (fun hc11 => ?_)
  · have h := it_p hc11 h
    refine lv_bipush (v := (-9)) hx hb dX5_crew_17 (by decide) ?_
    refine lv_istore (lv' := [(4, .int (-9)), (3, .int r9), (0, .ref a_z), (1, .int p0), (2, .int p1)]) hx hb dX5_crew_19 hl (by decide) rfl (fun ls hl => ?_)
    refine lv_iconst (v := 0) hx hb dX5_crew_21 (by decide) ?_
    refine lv_istore (lv' := [(5, .int 0), (4, .int (-9)), (3, .int r9), (0, .ref a_z), (1, .int p0), (2, .int p1)]) hx hb dX5_crew_22 hl (by decide) rfl (fun ls hl => ?_)
    obtain ⟨t43, t44, hk45, h⟩ := bd2_e h
    refine L24 p0 p1 z_refused g (-9) 0 z_m t43 t44 H locs ls hk45 hP hS (lv_sub hl [3, 4, 5, 1, 0] rfl) (fun H locs ls hP hS hl => ?_)
    refine lv_iload hx hb dX5_crew_133 (lv_at hl 0 rfl) ?_
    exact hret 135 H locs ls t43 t44 z_refused h rfl dX5_crew_135 hP hS
  · have h := it_n hc11 h
    refine lv_aload_n hx hb dX5_crew_11 rfl (lv_at hl 1 rfl) ?_
    refine lv_iload_n hx hb dX5_crew_12 rfl (lv_at hl 0 rfl) ?_
    obtain ⟨r47, z_refused_48, hk49, h⟩ := bd2_e h
    refine cV_i (rest := []) F (kX5_no l D cI cJ H.size g a_z a_z_s a_z_m a_z_image a_z_was a_z_letters a_z_row a_z_refused a_z_numbers z_hasImage z_letterMany z_rowMany z_reading z_seed z_refused r9 r47 z_refused_48 hk49) (cwV 1 hts gX5_crew_X5_no rfl rfl rfl eVX5_no ⟨Nat.le_of_ble_eq_true rfl, Nat.le_of_ble_eq_true rfl⟩) [0, 3] hP hS (by decide) rfl rfl 0 rfl rfl rfl hl.1 (Nat.le_of_ble_eq_true rfl) ⟨Nat.le_refl _, Nat.le_refl _⟩ rfl dX5_crew_13 (fun H locs hP hS => ?_)
    have hP : WD D A [(a_z, .inr (5, [.ref a_z_s, .ref a_z_m, .ref a_z_image, .ref a_z_was, .int z_hasImage, .ref a_z_letters, .ref a_z_row, .ref a_z_refused, .int z_letterMany, .int z_rowMany, .int z_reading, .ref a_z_numbers, .int z_seed])), (a_z_s, .inl (cI, 45, .inl z_s)), (a_z_m, .inl (cI, 45, .inl z_m)), (a_z_refused, .inl (cI, 7, .inl z_refused_48))] H := hP
    exact hret 16 H locs ls r47 z_m z_refused_48 h rfl dX5_crew_16 hP hS
theorem eSX5_orNever : yX5_orNever.cls ≠ "java/lang/invoke/MethodHandle" ∧ yX5_orNever.cls ≠ "java/lang/invoke/VarHandle" ∧ (parseMethodDescriptor yX5_orNever.desc).map (fun d => d.parameters.length) = some 1 := by decide +kernel
theorem eVX5_orNever : yX5_orNever.cls = RX5 ∧ yX5_orNever.cls ≠ "java/lang/invoke/MethodHandle" ∧ yX5_orNever.cls ≠ "java/lang/invoke/VarHandle" ∧ (parseMethodDescriptor yX5_orNever.desc).map (fun d => d.parameters.length) = some 1 := ⟨rfl, eSX5_orNever⟩
abbrev rmX5_orNever : Room := { frames := 0, cells := 0, slots := 0, locals := 0 }
def fX5_orNever (g : Nat) (p0 : Int32) : Option (Int32) := if 0 ≤ p0 then (some p0) else (some 61)
set_option maxHeartbeats 4000000 in
set_option maxRecDepth 100000 in
theorem kX5_orNever (l : Launch) (D : va_G) (cI cJ : ClassId) (sz g : Nat) (p0 : Int32) (r : Int32) (hf : fX5_orNever g p0 = some r) : Met l yX5_orNever wsX5_orNever rmX5_orNever (va_Pc [.int p0] (sPc D (tyL cI cJ) [] sz)) (qI D (tyL cI cJ) [] sz [] r) 0 0 (va_A [] sz) := by
  refine st_i (cc := cX5_orNever) (maxL := 1) (by decide) rfl (Nat.le_of_ble_eq_true rfl) ?_
  intro p e s m args below meth c A Q F hret0 H locs hP hS ls hl
  have F : Cx p s m args c cX5_orNever 1 wsX5_orNever RX5 D (tyL cI cJ) A := F
  have hx := F.1.1
  have hb := F.1.2.1
  have hown := F.1.2.2.2.1
  have hts := F.1.2.2.2.2
  have hret : ∀ (pc : Nat) (H : Heap) (locs : List Loc) (ls : Array Slot) (r' : Int32), some r' = some r → narrow .int (.int r') = .int r' → decode cX5_orNever pc = .ok (.ireturn, 1) → WD D A [] H → va_S A s.heap H locs → W p l e rmX5_orNever s m args below meth c H locs 0 0 Q (F0 m pc ls [.int r']) := by
    intro pc H locs ls r' h hn hd hP hS
    cases h
    exact hret0 pc H locs ls hn hd hP hS
  have hl : lv_has ls 1 [(0, .int p0)] := hl
  have h := hf
  unfold fX5_orNever at h
  refine lv_iload_n hx hb dX5_orNever_0 rfl (lv_at hl 0 rfl) ?_
  refine lv_if_ge (tgt := 9) hx hb dX5_orNever_1 (by decide) (fun hc2 => ?_) (fun hc2 => ?_)
  · have h := it_p hc2 h
    refine lv_iload_n hx hb dX5_orNever_9 rfl (lv_at hl 0 rfl) ?_
    exact hret 10 H locs ls p0 h rfl dX5_orNever_10 hP hS
  · have h := it_n hc2 h
    refine lv_bipush (v := 61) hx hb dX5_orNever_4 (by decide) ?_
    refine lv_goto (tgt := 10) hx hb dX5_orNever_6 (by decide) ?_
    exact hret 10 H locs ls 61 h rfl dX5_orNever_10 hP hS
theorem eSX5_ashore : yX5_ashore.cls ≠ "java/lang/invoke/MethodHandle" ∧ yX5_ashore.cls ≠ "java/lang/invoke/VarHandle" ∧ (parseMethodDescriptor yX5_ashore.desc).map (fun d => d.parameters.length) = some 1 := by decide +kernel
theorem eVX5_ashore : yX5_ashore.cls = RX5 ∧ yX5_ashore.cls ≠ "java/lang/invoke/MethodHandle" ∧ yX5_ashore.cls ≠ "java/lang/invoke/VarHandle" ∧ (parseMethodDescriptor yX5_ashore.desc).map (fun d => d.parameters.length) = some 1 := ⟨rfl, eSX5_ashore⟩
abbrev rmX5_ashore : Room := { frames := 8, cells := 0, slots := 0, locals := 179 }
def fX5_ashore_L29_b (g : Nat) (x1_L29 : Int32) (z_s : Nat → Int32) (self : Int32 → Int32 → Int32 → (Nat → Int32) → Option (Int32 × (Nat → Int32))) (x2_L29 : Int32) (x3_L29 : Int32) (x4_L29 : Int32) (z_m_L29 : Nat → Int32) : Option (Int32 × (Nat → Int32)) := if (z_s 1) ≤ x4_L29 then (some (x3_L29, z_m_L29)) else (bd1 (fX5_copies g z_s z_m_L29) fun z_m_23 => (bd1 (fX5_of g x4_L29 4) fun r25 => (gd (inB r25 45) (gd (inB (4 + x1_L29) 45) (bd2 (fX5_comesIn g (z_s (4 + x1_L29).toNatClampNeg) 60 (upd z_m_23 r25.toNatClampNeg 0)) fun r29 z_m_30 => (bd1 (fX5_orNever g r29) fun r32 => (if r32 < x2_L29 then (self r32 x4_L29 (x4_L29 + 1) z_m_30) else (self x2_L29 x3_L29 (x4_L29 + 1) z_m_30))))))))
def fX5_ashore_L29 (g : Nat) (x1_L29 : Int32) (z_s : Nat → Int32) (n : Nat) : Int32 → Int32 → Int32 → (Nat → Int32) → Option (Int32 × (Nat → Int32)) := lp (fX5_ashore_L29_b g x1_L29 z_s) (fun _ _ _ _ => none) n
def fX5_ashore (g : Nat) (p0 : Int32) (z_s : Nat → Int32) (z_m : Nat → Int32) (z_refused : Nat → Int32) : Option (Int32 × (Nat → Int32) × (Nat → Int32)) := bd1 (fX5_isPlace g p0 z_s) fun r14 => (if r14 = 0 then (bd2 (fX5_no g (-1) z_refused) fun r39 z_refused_40 => (some (r39, z_m, z_refused_40))) else (bd2 (fX5_comesTo g p0 z_s z_m) fun r17 z_m_18 => (bd1 (fX5_orNever g r17) fun r20 => (bd2 (fX5_ashore_L29 g p0 z_s g r20 (-9) 0 z_m_18) fun t35 t36 => (some (t35, t36, z_refused))))))
set_option maxHeartbeats 4000000 in
set_option maxRecDepth 100000 in
theorem kX5_ashore (l : Launch) (D : va_G) (cI cJ : ClassId) (sz g : Nat) (a_z a_z_s a_z_m a_z_image a_z_was a_z_letters a_z_row a_z_refused a_z_numbers : Nat) (z_hasImage : Int32) (z_letterMany : Int32) (z_rowMany : Int32) (z_reading : Int32) (z_seed : Int32) (z_s : Nat → Int32) (z_m : Nat → Int32) (z_refused : Nat → Int32) (p0 : Int32) (r : Int32) (n_z_m : Nat → Int32) (n_z_refused : Nat → Int32) (hf : fX5_ashore g p0 z_s z_m z_refused = some (r, n_z_m, n_z_refused)) : Met l yX5_ashore wsX5_ashore rmX5_ashore (va_Pc [.ref a_z, .int p0] (sPc D (tyL cI cJ) [(a_z, .inr (5, [.ref a_z_s, .ref a_z_m, .ref a_z_image, .ref a_z_was, .int z_hasImage, .ref a_z_letters, .ref a_z_row, .ref a_z_refused, .int z_letterMany, .int z_rowMany, .int z_reading, .ref a_z_numbers, .int z_seed])), (a_z_s, .inl (cI, 45, .inl z_s)), (a_z_m, .inl (cI, 45, .inl z_m)), (a_z_refused, .inl (cI, 7, .inl z_refused))] sz)) (qI D (tyL cI cJ) [(a_z, .inr (5, [.ref a_z_s, .ref a_z_m, .ref a_z_image, .ref a_z_was, .int z_hasImage, .ref a_z_letters, .ref a_z_row, .ref a_z_refused, .int z_letterMany, .int z_rowMany, .int z_reading, .ref a_z_numbers, .int z_seed])), (a_z_s, .inl (cI, 45, .inl z_s)), (a_z_m, .inl (cI, 45, .inl z_m)), (a_z_refused, .inl (cI, 7, .inl z_refused))] sz [(a_z, .inr (5, [.ref a_z_s, .ref a_z_m, .ref a_z_image, .ref a_z_was, .int z_hasImage, .ref a_z_letters, .ref a_z_row, .ref a_z_refused, .int z_letterMany, .int z_rowMany, .int z_reading, .ref a_z_numbers, .int z_seed])), (a_z_s, .inl (cI, 45, .inl z_s)), (a_z_m, .inl (cI, 45, .inl n_z_m)), (a_z_refused, .inl (cI, 7, .inl n_z_refused))] r) 0 0 (va_A [(a_z, .inr (5, [.ref a_z_s, .ref a_z_m, .ref a_z_image, .ref a_z_was, .int z_hasImage, .ref a_z_letters, .ref a_z_row, .ref a_z_refused, .int z_letterMany, .int z_rowMany, .int z_reading, .ref a_z_numbers, .int z_seed])), (a_z_s, .inl (cI, 45, .inl z_s)), (a_z_m, .inl (cI, 45, .inl z_m)), (a_z_refused, .inl (cI, 7, .inl z_refused))] sz) := by
  refine st_i (cc := cX5_ashore) (maxL := 6) (by decide) rfl (Nat.le_of_ble_eq_true rfl) ?_
  intro p e s m args below meth c A Q F hret0 H locs hP hS ls hl
  have F : Cx p s m args c cX5_ashore 6 wsX5_ashore RX5 D (tyL cI cJ) A := F
  have hx := F.1.1
  have hb := F.1.2.1
  have hown := F.1.2.2.2.1
  have hts := F.1.2.2.2.2
  have iX5 : ∀ w ∈ wsX50, w ∈ wsX5_ashore := fun w h => (List.mem_cons_of_mem _ (List.mem_append_right _ h))
  have hret : ∀ (pc : Nat) (H : Heap) (locs : List Loc) (ls : Array Slot) (r' : Int32) (m_z_m : Nat → Int32) (m_z_refused : Nat → Int32), some (r', m_z_m, m_z_refused) = some (r, n_z_m, n_z_refused) → narrow .int (.int r') = .int r' → decode cX5_ashore pc = .ok (.ireturn, 1) → WD D A [(a_z, .inr (5, [.ref a_z_s, .ref a_z_m, .ref a_z_image, .ref a_z_was, .int z_hasImage, .ref a_z_letters, .ref a_z_row, .ref a_z_refused, .int z_letterMany, .int z_rowMany, .int z_reading, .ref a_z_numbers, .int z_seed])), (a_z_s, .inl (cI, 45, .inl z_s)), (a_z_m, .inl (cI, 45, .inl m_z_m)), (a_z_refused, .inl (cI, 7, .inl m_z_refused))] H → va_S A s.heap H locs → W p l e rmX5_ashore s m args below meth c H locs 0 0 Q (F0 m pc ls [.int r']) := by
    intro pc H locs ls r' m_z_m m_z_refused h hn hd hP hS
    cases h
    exact hret0 pc H locs ls hn hd hP hS
  have L29 : ∀ (x1_L29 : Int32) (z_refused_L29 : Nat → Int32) (n : Nat) (x2_L29 : Int32) (x3_L29 : Int32) (x4_L29 : Int32) (z_m_L29 : Nat → Int32) (tt0 : Int32) (tt1 : Nat → Int32) (H : Heap) (locs : List Loc) (ls : Array Slot), fX5_ashore_L29 g x1_L29 z_s n x2_L29 x3_L29 x4_L29 z_m_L29 = some (tt0, tt1) → WD D A [(a_z, .inr (5, [.ref a_z_s, .ref a_z_m, .ref a_z_image, .ref a_z_was, .int z_hasImage, .ref a_z_letters, .ref a_z_row, .ref a_z_refused, .int z_letterMany, .int z_rowMany, .int z_reading, .ref a_z_numbers, .int z_seed])), (a_z_s, .inl (cI, 45, .inl z_s)), (a_z_m, .inl (cI, 45, .inl z_m_L29)), (a_z_refused, .inl (cI, 7, .inl z_refused_L29))] H → va_S A s.heap H locs → lv_has ls 6 [(0, .ref a_z), (1, .int x1_L29), (2, .int x2_L29), (3, .int x3_L29), (4, .int x4_L29)] → (∀ (H : Heap) (locs : List Loc) (ls : Array Slot), WD D A [(a_z, .inr (5, [.ref a_z_s, .ref a_z_m, .ref a_z_image, .ref a_z_was, .int z_hasImage, .ref a_z_letters, .ref a_z_row, .ref a_z_refused, .int z_letterMany, .int z_rowMany, .int z_reading, .ref a_z_numbers, .int z_seed])), (a_z_s, .inl (cI, 45, .inl z_s)), (a_z_m, .inl (cI, 45, .inl tt1)), (a_z_refused, .inl (cI, 7, .inl z_refused_L29))] H → va_S A s.heap H locs → lv_has ls 6 [(3, .int tt0)] → W p l e rmX5_ashore s m args below meth c H locs 0 0 Q (F0 m 103 ls [])) → W p l e rmX5_ashore s m args below meth c H locs 0 0 Q (F0 m 29 ls []) := by
    intro x1_L29 z_refused_L29 n
    induction n with
    | zero =>
      intro x2_L29 x3_L29 x4_L29 z_m_L29 tt0 tt1 H locs ls h
      exact (no_some h).elim
    | succ n ih =>
      intro x2_L29 x3_L29 x4_L29 z_m_L29 tt0 tt1 H locs ls h hP hS hl kE
      have h : fX5_ashore_L29_b g x1_L29 z_s (fX5_ashore_L29 g x1_L29 z_s n) x2_L29 x3_L29 x4_L29 z_m_L29 = some (tt0, tt1) := h
      unfold fX5_ashore_L29_b at h
      refine lv_iload hx hb dX5_ashore_29 (lv_at hl 4 rfl) ?_
      refine lv_aload_n hx hb dX5_ashore_31 rfl (lv_at hl 0 rfl) ?_
      refine gt_X5_9 F iX5 (List.mem_cons_of_mem _ (List.mem_append_left _ (List.mem_append_left _ (List.mem_of_getElem? (i := 0) rfl)))) hP 0 rfl dX5_ashore_32 ?_
      refine lv_iconst (v := 1) hx hb dX5_ashore_35 (by decide) ?_
      refine r_ia F hP 1 rfl (j := 1) rfl (by decide) dX5_ashore_36 ?_
      refine lv_icmp_ge (tgt := 103) hx hb dX5_ashore_37 (by decide) (fun hc22 => ?_) (fun hc22 => ?_)
      · have h := it_p hc22 h
        cases h
        exact kE H locs ls hP hS (lv_sub hl [3] rfl)
      · have h := it_n hc22 h
        refine lv_aload_n hx hb dX5_ashore_40 rfl (lv_at hl 0 rfl) ?_
        refine gt_X5_9 F iX5 (List.mem_cons_of_mem _ (List.mem_append_left _ (List.mem_append_left _ (List.mem_of_getElem? (i := 0) rfl)))) hP 0 rfl dX5_ashore_41 ?_
        refine lv_aload_n hx hb dX5_ashore_44 rfl (lv_at hl 0 rfl) ?_
        refine gt_X5_13 F iX5 (List.mem_cons_of_mem _ (List.mem_append_left _ (List.mem_append_left _ (List.mem_of_getElem? (i := 1) rfl)))) hP 0 rfl dX5_ashore_45 ?_
        obtain ⟨z_m_23, hk24, h⟩ := bd1_e h
        refine cS_v (rest := []) F (kX5_copies l D cI cJ H.size g a_z_s a_z_m z_s z_m_L29 z_m_23 hk24) (va_cwS 2 hts gX5_ashore_X5_copies rfl rfl rfl eSX5_copies ⟨Nat.le_of_ble_eq_true rfl, Nat.le_of_ble_eq_true rfl⟩) [1, 2] hP hS (by decide) rfl rfl rfl hl.1 (Nat.le_of_ble_eq_true rfl) ⟨Nat.le_refl _, Nat.le_refl _⟩ rfl dX5_ashore_48 (fun H locs hP hS => ?_)
        have hP : WD D A [(a_z, .inr (5, [.ref a_z_s, .ref a_z_m, .ref a_z_image, .ref a_z_was, .int z_hasImage, .ref a_z_letters, .ref a_z_row, .ref a_z_refused, .int z_letterMany, .int z_rowMany, .int z_reading, .ref a_z_numbers, .int z_seed])), (a_z_s, .inl (cI, 45, .inl z_s)), (a_z_m, .inl (cI, 45, .inl z_m_23)), (a_z_refused, .inl (cI, 7, .inl z_refused_L29))] H := hP
        refine lv_aload_n hx hb dX5_ashore_51 rfl (lv_at hl 0 rfl) ?_
        refine gt_X5_13 F iX5 (List.mem_cons_of_mem _ (List.mem_append_left _ (List.mem_append_left _ (List.mem_of_getElem? (i := 1) rfl)))) hP 0 rfl dX5_ashore_52 ?_
        refine lv_iload hx hb dX5_ashore_55 (lv_at hl 4 rfl) ?_
        refine lv_iconst (v := 4) hx hb dX5_ashore_57 (by decide) ?_
        obtain ⟨r25, hk26, h⟩ := bd1_e h
        refine cS_i (rest := [.ref a_z_m]) F (kX5_of l D cI cJ H.size g x4_L29 4 r25 hk26) (va_cwS 2 hts gX5_ashore_X5_of rfl rfl rfl eSX5_of ⟨Nat.le_of_ble_eq_true rfl, Nat.le_of_ble_eq_true rfl⟩) [] hP hS (by decide) rfl rfl rfl hl.1 (Nat.le_of_ble_eq_true rfl) ⟨Nat.le_refl _, Nat.le_refl _⟩ rfl dX5_ashore_58 (fun H locs hP hS => ?_)
        have hP : WD D A [(a_z, .inr (5, [.ref a_z_s, .ref a_z_m, .ref a_z_image, .ref a_z_was, .int z_hasImage, .ref a_z_letters, .ref a_z_row, .ref a_z_refused, .int z_letterMany, .int z_rowMany, .int z_reading, .ref a_z_numbers, .int z_seed])), (a_z_s, .inl (cI, 45, .inl z_s)), (a_z_m, .inl (cI, 45, .inl z_m_23)), (a_z_refused, .inl (cI, 7, .inl z_refused_L29))] H := hP
        refine lv_iconst (v := 0) hx hb dX5_ashore_61 (by decide) ?_
        obtain ⟨hg27, h⟩ := gd_e h
        refine r_is F hP hS 2 rfl rfl hg27 dX5_ashore_62 (fun H locs hP hS => ?_)
        have hP : WD D A [(a_z, .inr (5, [.ref a_z_s, .ref a_z_m, .ref a_z_image, .ref a_z_was, .int z_hasImage, .ref a_z_letters, .ref a_z_row, .ref a_z_refused, .int z_letterMany, .int z_rowMany, .int z_reading, .ref a_z_numbers, .int z_seed])), (a_z_s, .inl (cI, 45, .inl z_s)), (a_z_m, .inl (cI, 45, .inl (upd z_m_23 r25.toNatClampNeg 0))), (a_z_refused, .inl (cI, 7, .inl z_refused_L29))] H := hP
        refine lv_aload_n hx hb dX5_ashore_63 rfl (lv_at hl 0 rfl) ?_
        refine lv_aload_n hx hb dX5_ashore_64 rfl (lv_at hl 0 rfl) ?_
        refine gt_X5_9 F iX5 (List.mem_cons_of_mem _ (List.mem_append_left _ (List.mem_append_left _ (List.mem_of_getElem? (i := 0) rfl)))) hP 0 rfl dX5_ashore_65 ?_
        refine lv_iconst (v := 4) hx hb dX5_ashore_68 (by decide) ?_
        refine lv_iload_n hx hb dX5_ashore_69 rfl (lv_at hl 1 rfl) ?_
        refine lv_iadd hx hb dX5_ashore_70 ?_
        obtain ⟨hg28, h⟩ := gd_e h
        refine r_ia F hP 1 rfl rfl hg28 dX5_ashore_71 ?_
        refine lv_bipush (v := 60) hx hb dX5_ashore_72 (by decide) ?_
        obtain ⟨r29, z_m_30, hk31, h⟩ := bd2_e h
        refine cV_i (rest := []) F (kX5_comesIn l D cI cJ H.size g a_z a_z_s a_z_m a_z_image a_z_was a_z_letters a_z_row a_z_refused a_z_numbers z_hasImage z_letterMany z_rowMany z_reading z_seed (upd z_m_23 r25.toNatClampNeg 0) (z_s (4 + x1_L29).toNatClampNeg) 60 r29 z_m_30 hk31) (cwV 2 hts gX5_ashore_X5_comesIn rfl rfl rfl eVX5_comesIn ⟨Nat.le_of_ble_eq_true rfl, Nat.le_of_ble_eq_true rfl⟩) [0, 2] hP hS (by decide) rfl rfl 0 rfl rfl rfl hl.1 (Nat.le_of_ble_eq_true rfl) ⟨Nat.le_refl _, Nat.le_refl _⟩ rfl dX5_ashore_74 (fun H locs hP hS => ?_)
        have hP : WD D A [(a_z, .inr (5, [.ref a_z_s, .ref a_z_m, .ref a_z_image, .ref a_z_was, .int z_hasImage, .ref a_z_letters, .ref a_z_row, .ref a_z_refused, .int z_letterMany, .int z_rowMany, .int z_reading, .ref a_z_numbers, .int z_seed])), (a_z_s, .inl (cI, 45, .inl z_s)), (a_z_m, .inl (cI, 45, .inl z_m_30)), (a_z_refused, .inl (cI, 7, .inl z_refused_L29))] H := hP
        obtain ⟨r32, hk33, h⟩ := bd1_e h
        refine cS_i (rest := []) F (kX5_orNever l D cI cJ H.size g r29 r32 hk33) (va_cwS 1 hts gX5_ashore_X5_orNever rfl rfl rfl eSX5_orNever ⟨Nat.le_of_ble_eq_true rfl, Nat.le_of_ble_eq_true rfl⟩) [] hP hS (by decide) rfl rfl rfl hl.1 (Nat.le_of_ble_eq_true rfl) ⟨Nat.le_refl _, Nat.le_refl _⟩ rfl dX5_ashore_77 (fun H locs hP hS => ?_)
        have hP : WD D A [(a_z, .inr (5, [.ref a_z_s, .ref a_z_m, .ref a_z_image, .ref a_z_was, .int z_hasImage, .ref a_z_letters, .ref a_z_row, .ref a_z_refused, .int z_letterMany, .int z_rowMany, .int z_reading, .ref a_z_numbers, .int z_seed])), (a_z_s, .inl (cI, 45, .inl z_s)), (a_z_m, .inl (cI, 45, .inl z_m_30)), (a_z_refused, .inl (cI, 7, .inl z_refused_L29))] H := hP
        refine lv_istore (lv' := [(5, .int r32), (0, .ref a_z), (1, .int x1_L29), (2, .int x2_L29), (3, .int x3_L29), (4, .int x4_L29)]) hx hb dX5_ashore_80 hl (by decide) rfl (fun ls hl => ?_)
        refine lv_iload hx hb dX5_ashore_82 (lv_at hl 0 rfl) ?_
        refine lv_iload_n hx hb dX5_ashore_84 rfl (lv_at hl 3 rfl) ?_
        refine lv_icmp_lt (tgt := 91) hx hb dX5_ashore_85 (by decide) (fun hc34 => ?_) (fun hc34 => ?_)
        · have h := it_p hc34 h
          refine lv_iload hx hb dX5_ashore_91 (lv_at hl 5 rfl) ?_
          refine lv_istore_n (lv' := [(3, .int x4_L29), (5, .int r32), (0, .ref a_z), (1, .int x1_L29), (2, .int x2_L29), (4, .int x4_L29)]) hx hb dX5_ashore_93 rfl hl (by decide) rfl (fun ls hl => ?_)
          refine lv_iload hx hb dX5_ashore_94 (lv_at hl 1 rfl) ?_
          refine lv_istore_n (lv' := [(2, .int r32), (3, .int x4_L29), (5, .int r32), (0, .ref a_z), (1, .int x1_L29), (4, .int x4_L29)]) hx hb dX5_ashore_96 rfl hl (by decide) rfl (fun ls hl => ?_)
          refine lv_iinc (v := x4_L29 + 1) (lv' := [(4, .int (x4_L29 + 1)), (2, .int r32), (3, .int x4_L29), (5, .int r32), (0, .ref a_z), (1, .int x1_L29)]) hx hb dX5_ashore_97 hl (k := 5) rfl rfl (by decide) rfl (fun ls hl => ?_)
          refine lv_goto (tgt := 29) hx hb dX5_ashore_100 (by decide) ?_
          exact ih r32 x4_L29 (x4_L29 + 1) z_m_30 tt0 tt1 H locs ls h hP hS (lv_sub hl [4, 5, 1, 2, 0] rfl) kE
        · have h := it_n hc34 h
          refine lv_goto (tgt := 97) hx hb dX5_ashore_88 (by decide) ?_
          refine lv_iinc (v := x4_L29 + 1) (lv' := [(4, .int (x4_L29 + 1)), (5, .int r32), (0, .ref a_z), (1, .int x1_L29), (2, .int x2_L29), (3, .int x3_L29)]) hx hb dX5_ashore_97 hl (k := 5) rfl rfl (by decide) rfl (fun ls hl => ?_)
          refine lv_goto (tgt := 29) hx hb dX5_ashore_100 (by decide) ?_
          exact ih x2_L29 x3_L29 (x4_L29 + 1) z_m_30 tt0 tt1 H locs ls h hP hS (lv_sub hl [2, 3, 4, 5, 0] rfl) kE
  have hl : lv_has ls 6 [(0, .ref a_z), (1, .int p0)] := hl
  have h := hf
  unfold fX5_ashore at h
  refine lv_aload_n hx hb dX5_ashore_0 rfl (lv_at hl 0 rfl) ?_
  refine lv_iload_n hx hb dX5_ashore_1 rfl (lv_at hl 1 rfl) ?_
  obtain ⟨r14, hk15, h⟩ := bd1_e h
  refine cV_i (rest := []) F (kX5_isPlace l D cI cJ H.size g a_z a_z_s a_z_m a_z_image a_z_was a_z_letters a_z_row a_z_refused a_z_numbers z_hasImage z_letterMany z_rowMany z_reading z_seed z_s p0 r14 hk15) (cwV 1 hts gX5_ashore_X5_isPlace rfl rfl rfl eVX5_isPlace ⟨Nat.le_of_ble_eq_true rfl, Nat.le_of_ble_eq_true rfl⟩) [0, 1] hP hS (by decide) rfl rfl 0 rfl rfl rfl hl.1 (Nat.le_of_ble_eq_true rfl) ⟨Nat.le_refl _, Nat.le_refl _⟩ rfl dX5_ashore_2 (fun H locs hP hS => ?_)
  have hP : WD D A [(a_z, .inr (5, [.ref a_z_s, .ref a_z_m, .ref a_z_image, .ref a_z_was, .int z_hasImage, .ref a_z_letters, .ref a_z_row, .ref a_z_refused, .int z_letterMany, .int z_rowMany, .int z_reading, .ref a_z_numbers, .int z_seed])), (a_z_s, .inl (cI, 45, .inl z_s)), (a_z_m, .inl (cI, 45, .inl z_m)), (a_z_refused, .inl (cI, 7, .inl z_refused))] H := hP
  refine lv_if_ne (tgt := 14) hx hb dX5_ashore_5 (by decide) (fun hc16 => ?_) (fun hc16 => ?_)
  · have h := it_n hc16 h
    refine lv_aload_n hx hb dX5_ashore_14 rfl (lv_at hl 0 rfl) ?_
    refine lv_iload_n hx hb dX5_ashore_15 rfl (lv_at hl 1 rfl) ?_
    obtain ⟨r17, z_m_18, hk19, h⟩ := bd2_e h
    refine cV_i (rest := []) F (kX5_comesTo l D cI cJ H.size g a_z a_z_s a_z_m a_z_image a_z_was a_z_letters a_z_row a_z_refused a_z_numbers z_hasImage z_letterMany z_rowMany z_reading z_seed z_s z_m p0 r17 z_m_18 hk19) (cwV 1 hts gX5_ashore_X5_comesTo rfl rfl rfl eVX5_comesTo ⟨Nat.le_of_ble_eq_true rfl, Nat.le_of_ble_eq_true rfl⟩) [0, 1, 2] hP hS (by decide) rfl rfl 0 rfl rfl rfl hl.1 (Nat.le_of_ble_eq_true rfl) ⟨Nat.le_refl _, Nat.le_refl _⟩ rfl dX5_ashore_16 (fun H locs hP hS => ?_)
    have hP : WD D A [(a_z, .inr (5, [.ref a_z_s, .ref a_z_m, .ref a_z_image, .ref a_z_was, .int z_hasImage, .ref a_z_letters, .ref a_z_row, .ref a_z_refused, .int z_letterMany, .int z_rowMany, .int z_reading, .ref a_z_numbers, .int z_seed])), (a_z_s, .inl (cI, 45, .inl z_s)), (a_z_m, .inl (cI, 45, .inl z_m_18)), (a_z_refused, .inl (cI, 7, .inl z_refused))] H := hP
    obtain ⟨r20, hk21, h⟩ := bd1_e h
    refine cS_i (rest := []) F (kX5_orNever l D cI cJ H.size g r17 r20 hk21) (va_cwS 1 hts gX5_ashore_X5_orNever rfl rfl rfl eSX5_orNever ⟨Nat.le_of_ble_eq_true rfl, Nat.le_of_ble_eq_true rfl⟩) [] hP hS (by decide) rfl rfl rfl hl.1 (Nat.le_of_ble_eq_true rfl) ⟨Nat.le_refl _, Nat.le_refl _⟩ rfl dX5_ashore_19 (fun H locs hP hS => ?_)
    have hP : WD D A [(a_z, .inr (5, [.ref a_z_s, .ref a_z_m, .ref a_z_image, .ref a_z_was, .int z_hasImage, .ref a_z_letters, .ref a_z_row, .ref a_z_refused, .int z_letterMany, .int z_rowMany, .int z_reading, .ref a_z_numbers, .int z_seed])), (a_z_s, .inl (cI, 45, .inl z_s)), (a_z_m, .inl (cI, 45, .inl z_m_18)), (a_z_refused, .inl (cI, 7, .inl z_refused))] H := hP
    refine lv_istore_n (lv' := [(2, .int r20), (0, .ref a_z), (1, .int p0)]) hx hb dX5_ashore_22 rfl hl (by decide) rfl (fun ls hl => ?_)
    refine lv_bipush (v := (-9)) hx hb dX5_ashore_23 (by decide) ?_
    refine lv_istore_n (lv' := [(3, .int (-9)), (2, .int r20), (0, .ref a_z), (1, .int p0)]) hx hb dX5_ashore_25 rfl hl (by decide) rfl (fun ls hl => ?_)
    refine lv_iconst (v := 0) hx hb dX5_ashore_26 (by decide) ?_
    refine lv_istore (lv' := [(4, .int 0), (3, .int (-9)), (2, .int r20), (0, .ref a_z), (1, .int p0)]) hx hb dX5_ashore_27 hl (by decide) rfl (fun ls hl => ?_)
    obtain ⟨t35, t36, hk37, h⟩ := bd2_e h
    refine L29 p0 z_refused g r20 (-9) 0 z_m_18 t35 t36 H locs ls hk37 hP hS (lv_sub hl [3, 4, 2, 1, 0] rfl) (fun H locs ls hP hS hl => ?_)
    refine lv_iload_n hx hb dX5_ashore_103 rfl (lv_at hl 0 rfl) ?_
    exact hret 104 H locs ls t35 t36 z_refused h rfl dX5_ashore_104 hP hS
  · have h := it_p hc16 h
    refine lv_aload_n hx hb dX5_ashore_8 rfl (lv_at hl 0 rfl) ?_
    refine lv_iconst (v := (-1)) hx hb dX5_ashore_9 (by decide) ?_
    obtain ⟨r39, z_refused_40, hk41, h⟩ := bd2_e h
    refine cV_i (rest := []) F (kX5_no l D cI cJ H.size g a_z a_z_s a_z_m a_z_image a_z_was a_z_letters a_z_row a_z_refused a_z_numbers z_hasImage z_letterMany z_rowMany z_reading z_seed z_refused (-1) r39 z_refused_40 hk41) (cwV 1 hts gX5_ashore_X5_no rfl rfl rfl eVX5_no ⟨Nat.le_of_ble_eq_true rfl, Nat.le_of_ble_eq_true rfl⟩) [0, 3] hP hS (by decide) rfl rfl 0 rfl rfl rfl hl.1 (Nat.le_of_ble_eq_true rfl) ⟨Nat.le_refl _, Nat.le_refl _⟩ rfl dX5_ashore_10 (fun H locs hP hS => ?_)
    have hP : WD D A [(a_z, .inr (5, [.ref a_z_s, .ref a_z_m, .ref a_z_image, .ref a_z_was, .int z_hasImage, .ref a_z_letters, .ref a_z_row, .ref a_z_refused, .int z_letterMany, .int z_rowMany, .int z_reading, .ref a_z_numbers, .int z_seed])), (a_z_s, .inl (cI, 45, .inl z_s)), (a_z_m, .inl (cI, 45, .inl z_m)), (a_z_refused, .inl (cI, 7, .inl z_refused_40))] H := hP
    exact hret 13 H locs ls r39 z_m z_refused_40 h rfl dX5_ashore_13 hP hS
theorem eSX5_letters : yX5_letters.cls ≠ "java/lang/invoke/MethodHandle" ∧ yX5_letters.cls ≠ "java/lang/invoke/VarHandle" ∧ (parseMethodDescriptor yX5_letters.desc).map (fun d => d.parameters.length) = some 2 := by decide +kernel
theorem eVX5_letters : yX5_letters.cls = RX5 ∧ yX5_letters.cls ≠ "java/lang/invoke/MethodHandle" ∧ yX5_letters.cls ≠ "java/lang/invoke/VarHandle" ∧ (parseMethodDescriptor yX5_letters.desc).map (fun d => d.parameters.length) = some 2 := ⟨rfl, eSX5_letters⟩
abbrev rmX5_letters : Room := { frames := 7, cells := 0, slots := 0, locals := 158 }
def fX5_letters_L72_b (g : Nat) (x5_L72 : Int32) (z_s : Nat → Int32) (self : Int32 → (Nat → Int32) → Option ((Nat → Int32))) (x6_L72 : Int32) (z_m_L72 : Nat → Int32) : Option ((Nat → Int32)) := if (z_s 1) ≤ x6_L72 then (some z_m_L72) else (bd1 (fX5_has g x5_L72 x6_L72) fun r17 => (if r17 = 0 then (self (x6_L72 + 1) z_m_L72) else (bd1 (fX5_dropsIn g x6_L72 z_m_L72) fun z_m_20 => (self (x6_L72 + 1) z_m_20))))
def fX5_letters_L72 (g : Nat) (x5_L72 : Int32) (z_s : Nat → Int32) (n : Nat) : Int32 → (Nat → Int32) → Option ((Nat → Int32)) := lp (fX5_letters_L72_b g x5_L72 z_s) (fun _ _ => none) n
def fX5_letters_L24_b (g : Nat) (x1_L24 : Int32) (x2_L24 : Int32) (z_s : Nat → Int32) (self : Int32 → Int32 → (Nat → Int32) → Option (Int32 × (Nat → Int32))) (x4_L24 : Int32) (x5_L24 : Int32) (z_m_L24 : Nat → Int32) : Option (Int32 × (Nat → Int32)) := if (1 <<< ((z_s 1) &&& 31)) ≤ x5_L24 then (some (x4_L24, z_m_L24)) else (if x4_L24 < 0 then (bd1 (fX5_copies g z_s z_m_L24) fun z_m_14 => (bd1 (fX5_letters_L72 g x5_L24 z_s g 0 z_m_14) fun t22 => (gd (inB (4 + x1_L24) 45) (bd2 (fX5_comesIn g (z_s (4 + x1_L24).toNatClampNeg) x2_L24 t22) fun r24 z_m_25 => (if r24 < 0 then (self x4_L24 (x5_L24 + 1) z_m_25) else (self x5_L24 (x5_L24 + 1) z_m_25)))))) else (bd1 (fX5_bits g x5_L24) fun r30 => (bd1 (fX5_bits g x4_L24) fun r32 => (if r30 < r32 then (bd1 (fX5_copies g z_s z_m_L24) fun z_m_35 => (bd1 (fX5_letters_L72 g x5_L24 z_s g 0 z_m_35) fun t37 => (gd (inB (4 + x1_L24) 45) (bd2 (fX5_comesIn g (z_s (4 + x1_L24).toNatClampNeg) x2_L24 t37) fun r39 z_m_40 => (if r39 < 0 then (self x4_L24 (x5_L24 + 1) z_m_40) else (self x5_L24 (x5_L24 + 1) z_m_40)))))) else (self x4_L24 (x5_L24 + 1) z_m_L24)))))
def fX5_letters_L24 (g : Nat) (x1_L24 : Int32) (x2_L24 : Int32) (z_s : Nat → Int32) (n : Nat) : Int32 → Int32 → (Nat → Int32) → Option (Int32 × (Nat → Int32)) := lp (fX5_letters_L24_b g x1_L24 x2_L24 z_s) (fun _ _ _ => none) n
def fX5_letters (g : Nat) (p0 : Int32) (p1 : Int32) (z_s : Nat → Int32) (z_m : Nat → Int32) (z_refused : Nat → Int32) : Option (Int32 × (Nat → Int32) × (Nat → Int32)) := bd1 (fX5_wrongFor g p0 p1 z_s) fun r9 => (if r9 = 0 then (bd2 (fX5_letters_L24 g p0 p1 z_s g (-9) 0 z_m) fun t45 t46 => (some (t45, t46, z_refused))) else (bd2 (fX5_no g r9 z_refused) fun r49 z_refused_50 => (some (r49, z_m, z_refused_50))))
set_option maxHeartbeats 4000000 in
set_option maxRecDepth 100000 in
theorem kX5_letters (l : Launch) (D : va_G) (cI cJ : ClassId) (sz g : Nat) (a_z a_z_s a_z_m a_z_image a_z_was a_z_letters a_z_row a_z_refused a_z_numbers : Nat) (z_hasImage : Int32) (z_letterMany : Int32) (z_rowMany : Int32) (z_reading : Int32) (z_seed : Int32) (z_s : Nat → Int32) (z_m : Nat → Int32) (z_refused : Nat → Int32) (p0 : Int32) (p1 : Int32) (r : Int32) (n_z_m : Nat → Int32) (n_z_refused : Nat → Int32) (hf : fX5_letters g p0 p1 z_s z_m z_refused = some (r, n_z_m, n_z_refused)) : Met l yX5_letters wsX5_letters rmX5_letters (va_Pc [.ref a_z, .int p0, .int p1] (sPc D (tyL cI cJ) [(a_z, .inr (5, [.ref a_z_s, .ref a_z_m, .ref a_z_image, .ref a_z_was, .int z_hasImage, .ref a_z_letters, .ref a_z_row, .ref a_z_refused, .int z_letterMany, .int z_rowMany, .int z_reading, .ref a_z_numbers, .int z_seed])), (a_z_s, .inl (cI, 45, .inl z_s)), (a_z_m, .inl (cI, 45, .inl z_m)), (a_z_refused, .inl (cI, 7, .inl z_refused))] sz)) (qI D (tyL cI cJ) [(a_z, .inr (5, [.ref a_z_s, .ref a_z_m, .ref a_z_image, .ref a_z_was, .int z_hasImage, .ref a_z_letters, .ref a_z_row, .ref a_z_refused, .int z_letterMany, .int z_rowMany, .int z_reading, .ref a_z_numbers, .int z_seed])), (a_z_s, .inl (cI, 45, .inl z_s)), (a_z_m, .inl (cI, 45, .inl z_m)), (a_z_refused, .inl (cI, 7, .inl z_refused))] sz [(a_z, .inr (5, [.ref a_z_s, .ref a_z_m, .ref a_z_image, .ref a_z_was, .int z_hasImage, .ref a_z_letters, .ref a_z_row, .ref a_z_refused, .int z_letterMany, .int z_rowMany, .int z_reading, .ref a_z_numbers, .int z_seed])), (a_z_s, .inl (cI, 45, .inl z_s)), (a_z_m, .inl (cI, 45, .inl n_z_m)), (a_z_refused, .inl (cI, 7, .inl n_z_refused))] r) 0 0 (va_A [(a_z, .inr (5, [.ref a_z_s, .ref a_z_m, .ref a_z_image, .ref a_z_was, .int z_hasImage, .ref a_z_letters, .ref a_z_row, .ref a_z_refused, .int z_letterMany, .int z_rowMany, .int z_reading, .ref a_z_numbers, .int z_seed])), (a_z_s, .inl (cI, 45, .inl z_s)), (a_z_m, .inl (cI, 45, .inl z_m)), (a_z_refused, .inl (cI, 7, .inl z_refused))] sz) := by
  refine st_i (cc := cX5_letters) (maxL := 7) (by decide) rfl (Nat.le_of_ble_eq_true rfl) ?_
  intro p e s m args below meth c A Q F hret0 H locs hP hS ls hl
  have F : Cx p s m args c cX5_letters 7 wsX5_letters RX5 D (tyL cI cJ) A := F
  have hx := F.1.1
  have hb := F.1.2.1
  have hown := F.1.2.2.2.1
  have hts := F.1.2.2.2.2
  have iX5 : ∀ w ∈ wsX50, w ∈ wsX5_letters := fun w h => (List.mem_cons_of_mem _ (List.mem_append_right _ h))
  have hret : ∀ (pc : Nat) (H : Heap) (locs : List Loc) (ls : Array Slot) (r' : Int32) (m_z_m : Nat → Int32) (m_z_refused : Nat → Int32), some (r', m_z_m, m_z_refused) = some (r, n_z_m, n_z_refused) → narrow .int (.int r') = .int r' → decode cX5_letters pc = .ok (.ireturn, 1) → WD D A [(a_z, .inr (5, [.ref a_z_s, .ref a_z_m, .ref a_z_image, .ref a_z_was, .int z_hasImage, .ref a_z_letters, .ref a_z_row, .ref a_z_refused, .int z_letterMany, .int z_rowMany, .int z_reading, .ref a_z_numbers, .int z_seed])), (a_z_s, .inl (cI, 45, .inl z_s)), (a_z_m, .inl (cI, 45, .inl m_z_m)), (a_z_refused, .inl (cI, 7, .inl m_z_refused))] H → va_S A s.heap H locs → W p l e rmX5_letters s m args below meth c H locs 0 0 Q (F0 m pc ls [.int r']) := by
    intro pc H locs ls r' m_z_m m_z_refused h hn hd hP hS
    cases h
    exact hret0 pc H locs ls hn hd hP hS
  have L72 : ∀ (x1_L72 : Int32) (x2_L72 : Int32) (x4_L72 : Int32) (x5_L72 : Int32) (z_refused_L72 : Nat → Int32) (n : Nat) (x6_L72 : Int32) (z_m_L72 : Nat → Int32) (tt0 : Nat → Int32) (H : Heap) (locs : List Loc) (ls : Array Slot), fX5_letters_L72 g x5_L72 z_s n x6_L72 z_m_L72 = some tt0 → WD D A [(a_z, .inr (5, [.ref a_z_s, .ref a_z_m, .ref a_z_image, .ref a_z_was, .int z_hasImage, .ref a_z_letters, .ref a_z_row, .ref a_z_refused, .int z_letterMany, .int z_rowMany, .int z_reading, .ref a_z_numbers, .int z_seed])), (a_z_s, .inl (cI, 45, .inl z_s)), (a_z_m, .inl (cI, 45, .inl z_m_L72)), (a_z_refused, .inl (cI, 7, .inl z_refused_L72))] H → va_S A s.heap H locs → lv_has ls 7 [(0, .ref a_z), (1, .int x1_L72), (2, .int x2_L72), (4, .int x4_L72), (5, .int x5_L72), (6, .int x6_L72)] → (∀ (H : Heap) (locs : List Loc) (ls : Array Slot), WD D A [(a_z, .inr (5, [.ref a_z_s, .ref a_z_m, .ref a_z_image, .ref a_z_was, .int z_hasImage, .ref a_z_letters, .ref a_z_row, .ref a_z_refused, .int z_letterMany, .int z_rowMany, .int z_reading, .ref a_z_numbers, .int z_seed])), (a_z_s, .inl (cI, 45, .inl z_s)), (a_z_m, .inl (cI, 45, .inl tt0)), (a_z_refused, .inl (cI, 7, .inl z_refused_L72))] H → va_S A s.heap H locs → lv_has ls 7 [(0, .ref a_z), (1, .int x1_L72), (2, .int x2_L72), (4, .int x4_L72), (5, .int x5_L72)] → W p l e rmX5_letters s m args below meth c H locs 0 0 Q (F0 m 108 ls [])) → W p l e rmX5_letters s m args below meth c H locs 0 0 Q (F0 m 72 ls []) := by
    intro x1_L72 x2_L72 x4_L72 x5_L72 z_refused_L72 n
    induction n with
    | zero =>
      intro x6_L72 z_m_L72 tt0 H locs ls h
      exact (no_some h).elim
    | succ n ih =>
      intro x6_L72 z_m_L72 tt0 H locs ls h hP hS hl kE
      have h : fX5_letters_L72_b g x5_L72 z_s (fX5_letters_L72 g x5_L72 z_s n) x6_L72 z_m_L72 = some tt0 := h
      unfold fX5_letters_L72_b at h
      refine lv_iload hx hb dX5_letters_72 (lv_at hl 5 rfl) ?_
      refine lv_aload_n hx hb dX5_letters_74 rfl (lv_at hl 0 rfl) ?_
      refine gt_X5_9 F iX5 (List.mem_cons_of_mem _ (List.mem_append_left _ (List.mem_append_left _ (List.mem_of_getElem? (i := 0) rfl)))) hP 0 rfl dX5_letters_75 ?_
      refine lv_iconst (v := 1) hx hb dX5_letters_78 (by decide) ?_
      refine r_ia F hP 1 rfl (j := 1) rfl (by decide) dX5_letters_79 ?_
      refine lv_icmp_ge (tgt := 108) hx hb dX5_letters_80 (by decide) (fun hc16 => ?_) (fun hc16 => ?_)
      · have h := it_p hc16 h
        cases h
        exact kE H locs ls hP hS (lv_sub hl [0, 1, 2, 3, 4] rfl)
      · have h := it_n hc16 h
        refine lv_iload hx hb dX5_letters_83 (lv_at hl 4 rfl) ?_
        refine lv_iload hx hb dX5_letters_85 (lv_at hl 5 rfl) ?_
        obtain ⟨r17, hk18, h⟩ := bd1_e h
        refine cS_i (rest := []) F (kX5_has l D cI cJ H.size g x5_L72 x6_L72 r17 hk18) (va_cwS 2 hts gX5_letters_X5_has rfl rfl rfl eSX5_has ⟨Nat.le_of_ble_eq_true rfl, Nat.le_of_ble_eq_true rfl⟩) [] hP hS (by decide) rfl rfl rfl hl.1 (Nat.le_of_ble_eq_true rfl) ⟨Nat.le_refl _, Nat.le_refl _⟩ rfl dX5_letters_87 (fun H locs hP hS => ?_)
        have hP : WD D A [(a_z, .inr (5, [.ref a_z_s, .ref a_z_m, .ref a_z_image, .ref a_z_was, .int z_hasImage, .ref a_z_letters, .ref a_z_row, .ref a_z_refused, .int z_letterMany, .int z_rowMany, .int z_reading, .ref a_z_numbers, .int z_seed])), (a_z_s, .inl (cI, 45, .inl z_s)), (a_z_m, .inl (cI, 45, .inl z_m_L72)), (a_z_refused, .inl (cI, 7, .inl z_refused_L72))] H := hP
        refine lv_if_eq (tgt := 102) hx hb dX5_letters_90 (by decide) (fun hc19 => ?_) (fun hc19 => ?_)
        · have h := it_p hc19 h
          refine lv_iinc (v := x6_L72 + 1) (lv' := [(6, .int (x6_L72 + 1)), (0, .ref a_z), (1, .int x1_L72), (2, .int x2_L72), (4, .int x4_L72), (5, .int x5_L72)]) hx hb dX5_letters_102 hl (k := 5) rfl rfl (by decide) rfl (fun ls hl => ?_)
          refine lv_goto (tgt := 72) hx hb dX5_letters_105 (by decide) ?_
          exact ih (x6_L72 + 1) z_m_L72 tt0 H locs ls h hP hS (lv_sub hl [1, 2, 3, 4, 5, 0] rfl) kE
        · have h := it_n hc19 h
          refine lv_aload_n hx hb dX5_letters_93 rfl (lv_at hl 0 rfl) ?_
          refine gt_X5_13 F iX5 (List.mem_cons_of_mem _ (List.mem_append_left _ (List.mem_append_left _ (List.mem_of_getElem? (i := 1) rfl)))) hP 0 rfl dX5_letters_94 ?_
          refine lv_iload hx hb dX5_letters_97 (lv_at hl 5 rfl) ?_
          obtain ⟨z_m_20, hk21, h⟩ := bd1_e h
          refine cS_v (rest := []) F (kX5_dropsIn l D cI cJ H.size g a_z_m z_m_L72 x6_L72 z_m_20 hk21) (va_cwS 2 hts gX5_letters_X5_dropsIn rfl rfl rfl eSX5_dropsIn ⟨Nat.le_of_ble_eq_true rfl, Nat.le_of_ble_eq_true rfl⟩) [2] hP hS (by decide) rfl rfl rfl hl.1 (Nat.le_of_ble_eq_true rfl) ⟨Nat.le_refl _, Nat.le_refl _⟩ rfl dX5_letters_99 (fun H locs hP hS => ?_)
          have hP : WD D A [(a_z, .inr (5, [.ref a_z_s, .ref a_z_m, .ref a_z_image, .ref a_z_was, .int z_hasImage, .ref a_z_letters, .ref a_z_row, .ref a_z_refused, .int z_letterMany, .int z_rowMany, .int z_reading, .ref a_z_numbers, .int z_seed])), (a_z_s, .inl (cI, 45, .inl z_s)), (a_z_m, .inl (cI, 45, .inl z_m_20)), (a_z_refused, .inl (cI, 7, .inl z_refused_L72))] H := hP
          refine lv_iinc (v := x6_L72 + 1) (lv' := [(6, .int (x6_L72 + 1)), (0, .ref a_z), (1, .int x1_L72), (2, .int x2_L72), (4, .int x4_L72), (5, .int x5_L72)]) hx hb dX5_letters_102 hl (k := 5) rfl rfl (by decide) rfl (fun ls hl => ?_)
          refine lv_goto (tgt := 72) hx hb dX5_letters_105 (by decide) ?_
          exact ih (x6_L72 + 1) z_m_20 tt0 H locs ls h hP hS (lv_sub hl [1, 2, 3, 4, 5, 0] rfl) kE
  have L24 : ∀ (x1_L24 : Int32) (x2_L24 : Int32) (z_refused_L24 : Nat → Int32) (n : Nat) (x4_L24 : Int32) (x5_L24 : Int32) (z_m_L24 : Nat → Int32) (tt0 : Int32) (tt1 : Nat → Int32) (H : Heap) (locs : List Loc) (ls : Array Slot), fX5_letters_L24 g x1_L24 x2_L24 z_s n x4_L24 x5_L24 z_m_L24 = some (tt0, tt1) → WD D A [(a_z, .inr (5, [.ref a_z_s, .ref a_z_m, .ref a_z_image, .ref a_z_was, .int z_hasImage, .ref a_z_letters, .ref a_z_row, .ref a_z_refused, .int z_letterMany, .int z_rowMany, .int z_reading, .ref a_z_numbers, .int z_seed])), (a_z_s, .inl (cI, 45, .inl z_s)), (a_z_m, .inl (cI, 45, .inl z_m_L24)), (a_z_refused, .inl (cI, 7, .inl z_refused_L24))] H → va_S A s.heap H locs → lv_has ls 7 [(0, .ref a_z), (1, .int x1_L24), (2, .int x2_L24), (4, .int x4_L24), (5, .int x5_L24)] → (∀ (H : Heap) (locs : List Loc) (ls : Array Slot), WD D A [(a_z, .inr (5, [.ref a_z_s, .ref a_z_m, .ref a_z_image, .ref a_z_was, .int z_hasImage, .ref a_z_letters, .ref a_z_row, .ref a_z_refused, .int z_letterMany, .int z_rowMany, .int z_reading, .ref a_z_numbers, .int z_seed])), (a_z_s, .inl (cI, 45, .inl z_s)), (a_z_m, .inl (cI, 45, .inl tt1)), (a_z_refused, .inl (cI, 7, .inl z_refused_L24))] H → va_S A s.heap H locs → lv_has ls 7 [(4, .int tt0)] → W p l e rmX5_letters s m args below meth c H locs 0 0 Q (F0 m 134 ls [])) → W p l e rmX5_letters s m args below meth c H locs 0 0 Q (F0 m 24 ls []) := by
    intro x1_L24 x2_L24 z_refused_L24 n
    induction n with
    | zero =>
      intro x4_L24 x5_L24 z_m_L24 tt0 tt1 H locs ls h
      exact (no_some h).elim
    | succ n ih =>
      intro x4_L24 x5_L24 z_m_L24 tt0 tt1 H locs ls h hP hS hl kE
      have h : fX5_letters_L24_b g x1_L24 x2_L24 z_s (fX5_letters_L24 g x1_L24 x2_L24 z_s n) x4_L24 x5_L24 z_m_L24 = some (tt0, tt1) := h
      unfold fX5_letters_L24_b at h
      refine lv_iload hx hb dX5_letters_24 (lv_at hl 4 rfl) ?_
      refine lv_iconst (v := 1) hx hb dX5_letters_26 (by decide) ?_
      refine lv_aload_n hx hb dX5_letters_27 rfl (lv_at hl 0 rfl) ?_
      refine gt_X5_9 F iX5 (List.mem_cons_of_mem _ (List.mem_append_left _ (List.mem_append_left _ (List.mem_of_getElem? (i := 0) rfl)))) hP 0 rfl dX5_letters_28 ?_
      refine lv_iconst (v := 1) hx hb dX5_letters_31 (by decide) ?_
      refine r_ia F hP 1 rfl (j := 1) rfl (by decide) dX5_letters_32 ?_
      refine lv_ishl hx hb dX5_letters_33 ?_
      refine lv_icmp_ge (tgt := 134) hx hb dX5_letters_34 (by decide) (fun hc12 => ?_) (fun hc12 => ?_)
      · have h := it_p hc12 h
        cases h
        exact kE H locs ls hP hS (lv_sub hl [3] rfl)
      · have h := it_n hc12 h
        refine lv_iload hx hb dX5_letters_37 (lv_at hl 3 rfl) ?_
        refine lv_if_lt (tgt := 58) hx hb dX5_letters_39 (by decide) (fun hc13 => ?_) (fun hc13 => ?_)
        · have h := it_p hc13 h
          refine lv_aload_n hx hb dX5_letters_58 rfl (lv_at hl 0 rfl) ?_
          refine gt_X5_9 F iX5 (List.mem_cons_of_mem _ (List.mem_append_left _ (List.mem_append_left _ (List.mem_of_getElem? (i := 0) rfl)))) hP 0 rfl dX5_letters_59 ?_
          refine lv_aload_n hx hb dX5_letters_62 rfl (lv_at hl 0 rfl) ?_
          refine gt_X5_13 F iX5 (List.mem_cons_of_mem _ (List.mem_append_left _ (List.mem_append_left _ (List.mem_of_getElem? (i := 1) rfl)))) hP 0 rfl dX5_letters_63 ?_
          obtain ⟨z_m_14, hk15, h⟩ := bd1_e h
          refine cS_v (rest := []) F (kX5_copies l D cI cJ H.size g a_z_s a_z_m z_s z_m_L24 z_m_14 hk15) (va_cwS 2 hts gX5_letters_X5_copies rfl rfl rfl eSX5_copies ⟨Nat.le_of_ble_eq_true rfl, Nat.le_of_ble_eq_true rfl⟩) [1, 2] hP hS (by decide) rfl rfl rfl hl.1 (Nat.le_of_ble_eq_true rfl) ⟨Nat.le_refl _, Nat.le_refl _⟩ rfl dX5_letters_66 (fun H locs hP hS => ?_)
          have hP : WD D A [(a_z, .inr (5, [.ref a_z_s, .ref a_z_m, .ref a_z_image, .ref a_z_was, .int z_hasImage, .ref a_z_letters, .ref a_z_row, .ref a_z_refused, .int z_letterMany, .int z_rowMany, .int z_reading, .ref a_z_numbers, .int z_seed])), (a_z_s, .inl (cI, 45, .inl z_s)), (a_z_m, .inl (cI, 45, .inl z_m_14)), (a_z_refused, .inl (cI, 7, .inl z_refused_L24))] H := hP
          refine lv_iconst (v := 0) hx hb dX5_letters_69 (by decide) ?_
          refine lv_istore (lv' := [(6, .int 0), (0, .ref a_z), (1, .int x1_L24), (2, .int x2_L24), (4, .int x4_L24), (5, .int x5_L24)]) hx hb dX5_letters_70 hl (by decide) rfl (fun ls hl => ?_)
          obtain ⟨t22, hk28, h⟩ := bd1_e h
          refine L72 x1_L24 x2_L24 x4_L24 x5_L24 z_refused_L24 g 0 z_m_14 t22 H locs ls hk28 hP hS (lv_sub hl [1, 2, 3, 4, 5, 0] rfl) (fun H locs ls hP hS hl => ?_)
          refine lv_aload_n hx hb dX5_letters_108 rfl (lv_at hl 0 rfl) ?_
          refine lv_aload_n hx hb dX5_letters_109 rfl (lv_at hl 0 rfl) ?_
          refine gt_X5_9 F iX5 (List.mem_cons_of_mem _ (List.mem_append_left _ (List.mem_append_left _ (List.mem_of_getElem? (i := 0) rfl)))) hP 0 rfl dX5_letters_110 ?_
          refine lv_iconst (v := 4) hx hb dX5_letters_113 (by decide) ?_
          refine lv_iload_n hx hb dX5_letters_114 rfl (lv_at hl 1 rfl) ?_
          refine lv_iadd hx hb dX5_letters_115 ?_
          obtain ⟨hg23, h⟩ := gd_e h
          refine r_ia F hP 1 rfl rfl hg23 dX5_letters_116 ?_
          refine lv_iload_n hx hb dX5_letters_117 rfl (lv_at hl 2 rfl) ?_
          obtain ⟨r24, z_m_25, hk26, h⟩ := bd2_e h
          refine cV_i (rest := []) F (kX5_comesIn l D cI cJ H.size g a_z a_z_s a_z_m a_z_image a_z_was a_z_letters a_z_row a_z_refused a_z_numbers z_hasImage z_letterMany z_rowMany z_reading z_seed t22 (z_s (4 + x1_L24).toNatClampNeg) x2_L24 r24 z_m_25 hk26) (cwV 2 hts gX5_letters_X5_comesIn rfl rfl rfl eVX5_comesIn ⟨Nat.le_of_ble_eq_true rfl, Nat.le_of_ble_eq_true rfl⟩) [0, 2] hP hS (by decide) rfl rfl 0 rfl rfl rfl hl.1 (Nat.le_of_ble_eq_true rfl) ⟨Nat.le_refl _, Nat.le_refl _⟩ rfl dX5_letters_118 (fun H locs hP hS => ?_)
          have hP : WD D A [(a_z, .inr (5, [.ref a_z_s, .ref a_z_m, .ref a_z_image, .ref a_z_was, .int z_hasImage, .ref a_z_letters, .ref a_z_row, .ref a_z_refused, .int z_letterMany, .int z_rowMany, .int z_reading, .ref a_z_numbers, .int z_seed])), (a_z_s, .inl (cI, 45, .inl z_s)), (a_z_m, .inl (cI, 45, .inl z_m_25)), (a_z_refused, .inl (cI, 7, .inl z_refused_L24))] H := hP
          refine lv_if_lt (tgt := 128) hx hb dX5_letters_121 (by decide) (fun hc27 => ?_) (fun hc27 => ?_)
          · have h := it_p hc27 h
            refine lv_iinc (v := x5_L24 + 1) (lv' := [(5, .int (x5_L24 + 1)), (0, .ref a_z), (1, .int x1_L24), (2, .int x2_L24), (4, .int x4_L24)]) hx hb dX5_letters_128 hl (k := 4) rfl rfl (by decide) rfl (fun ls hl => ?_)
            refine lv_goto (tgt := 24) hx hb dX5_letters_131 (by decide) ?_
            exact ih x4_L24 (x5_L24 + 1) z_m_25 tt0 tt1 H locs ls h hP hS (lv_sub hl [1, 2, 3, 4, 0] rfl) kE
          · have h := it_n hc27 h
            refine lv_iload hx hb dX5_letters_124 (lv_at hl 4 rfl) ?_
            refine lv_istore (lv' := [(4, .int x5_L24), (0, .ref a_z), (1, .int x1_L24), (2, .int x2_L24), (5, .int x5_L24)]) hx hb dX5_letters_126 hl (by decide) rfl (fun ls hl => ?_)
            refine lv_iinc (v := x5_L24 + 1) (lv' := [(5, .int (x5_L24 + 1)), (4, .int x5_L24), (0, .ref a_z), (1, .int x1_L24), (2, .int x2_L24)]) hx hb dX5_letters_128 hl (k := 4) rfl rfl (by decide) rfl (fun ls hl => ?_)
            refine lv_goto (tgt := 24) hx hb dX5_letters_131 (by decide) ?_
            exact ih x5_L24 (x5_L24 + 1) z_m_25 tt0 tt1 H locs ls h hP hS (lv_sub hl [2, 3, 4, 1, 0] rfl) kE
        · have h := it_n hc13 h
          refine lv_iload hx hb dX5_letters_42 (lv_at hl 4 rfl) ?_
          obtain ⟨r30, hk31, h⟩ := bd1_e h
          refine cS_i (rest := []) F (kX5_bits l D cI cJ H.size g x5_L24 r30 hk31) (va_cwS 1 hts gX5_letters_X5_bits rfl rfl rfl eSX5_bits ⟨Nat.le_of_ble_eq_true rfl, Nat.le_of_ble_eq_true rfl⟩) [] hP hS (by decide) rfl rfl rfl hl.1 (Nat.le_of_ble_eq_true rfl) ⟨Nat.le_refl _, Nat.le_refl _⟩ rfl dX5_letters_44 (fun H locs hP hS => ?_)
          have hP : WD D A [(a_z, .inr (5, [.ref a_z_s, .ref a_z_m, .ref a_z_image, .ref a_z_was, .int z_hasImage, .ref a_z_letters, .ref a_z_row, .ref a_z_refused, .int z_letterMany, .int z_rowMany, .int z_reading, .ref a_z_numbers, .int z_seed])), (a_z_s, .inl (cI, 45, .inl z_s)), (a_z_m, .inl (cI, 45, .inl z_m_L24)), (a_z_refused, .inl (cI, 7, .inl z_refused_L24))] H := hP
          refine lv_iload hx hb dX5_letters_47 (lv_at hl 3 rfl) ?_
          obtain ⟨r32, hk33, h⟩ := bd1_e h
          refine cS_i (rest := [.int r30]) F (kX5_bits l D cI cJ H.size g x4_L24 r32 hk33) (va_cwS 1 hts gX5_letters_X5_bits rfl rfl rfl eSX5_bits ⟨Nat.le_of_ble_eq_true rfl, Nat.le_of_ble_eq_true rfl⟩) [] hP hS (by decide) rfl rfl rfl hl.1 (Nat.le_of_ble_eq_true rfl) ⟨Nat.le_refl _, Nat.le_refl _⟩ rfl dX5_letters_49 (fun H locs hP hS => ?_)
          have hP : WD D A [(a_z, .inr (5, [.ref a_z_s, .ref a_z_m, .ref a_z_image, .ref a_z_was, .int z_hasImage, .ref a_z_letters, .ref a_z_row, .ref a_z_refused, .int z_letterMany, .int z_rowMany, .int z_reading, .ref a_z_numbers, .int z_seed])), (a_z_s, .inl (cI, 45, .inl z_s)), (a_z_m, .inl (cI, 45, .inl z_m_L24)), (a_z_refused, .inl (cI, 7, .inl z_refused_L24))] H := hP
          refine lv_icmp_lt (tgt := 58) hx hb dX5_letters_52 (by decide) (fun hc34 => ?_) (fun hc34 => ?_)
          · have h := it_p hc34 h
            refine lv_aload_n hx hb dX5_letters_58 rfl (lv_at hl 0 rfl) ?_
            refine gt_X5_9 F iX5 (List.mem_cons_of_mem _ (List.mem_append_left _ (List.mem_append_left _ (List.mem_of_getElem? (i := 0) rfl)))) hP 0 rfl dX5_letters_59 ?_
            refine lv_aload_n hx hb dX5_letters_62 rfl (lv_at hl 0 rfl) ?_
            refine gt_X5_13 F iX5 (List.mem_cons_of_mem _ (List.mem_append_left _ (List.mem_append_left _ (List.mem_of_getElem? (i := 1) rfl)))) hP 0 rfl dX5_letters_63 ?_
            obtain ⟨z_m_35, hk36, h⟩ := bd1_e h
            refine cS_v (rest := []) F (kX5_copies l D cI cJ H.size g a_z_s a_z_m z_s z_m_L24 z_m_35 hk36) (va_cwS 2 hts gX5_letters_X5_copies rfl rfl rfl eSX5_copies ⟨Nat.le_of_ble_eq_true rfl, Nat.le_of_ble_eq_true rfl⟩) [1, 2] hP hS (by decide) rfl rfl rfl hl.1 (Nat.le_of_ble_eq_true rfl) ⟨Nat.le_refl _, Nat.le_refl _⟩ rfl dX5_letters_66 (fun H locs hP hS => ?_)
            have hP : WD D A [(a_z, .inr (5, [.ref a_z_s, .ref a_z_m, .ref a_z_image, .ref a_z_was, .int z_hasImage, .ref a_z_letters, .ref a_z_row, .ref a_z_refused, .int z_letterMany, .int z_rowMany, .int z_reading, .ref a_z_numbers, .int z_seed])), (a_z_s, .inl (cI, 45, .inl z_s)), (a_z_m, .inl (cI, 45, .inl z_m_35)), (a_z_refused, .inl (cI, 7, .inl z_refused_L24))] H := hP
            refine lv_iconst (v := 0) hx hb dX5_letters_69 (by decide) ?_
            refine lv_istore (lv' := [(6, .int 0), (0, .ref a_z), (1, .int x1_L24), (2, .int x2_L24), (4, .int x4_L24), (5, .int x5_L24)]) hx hb dX5_letters_70 hl (by decide) rfl (fun ls hl => ?_)
            obtain ⟨t37, hk43, h⟩ := bd1_e h
            refine L72 x1_L24 x2_L24 x4_L24 x5_L24 z_refused_L24 g 0 z_m_35 t37 H locs ls hk43 hP hS (lv_sub hl [1, 2, 3, 4, 5, 0] rfl) (fun H locs ls hP hS hl => ?_)
            refine lv_aload_n hx hb dX5_letters_108 rfl (lv_at hl 0 rfl) ?_
            refine lv_aload_n hx hb dX5_letters_109 rfl (lv_at hl 0 rfl) ?_
            refine gt_X5_9 F iX5 (List.mem_cons_of_mem _ (List.mem_append_left _ (List.mem_append_left _ (List.mem_of_getElem? (i := 0) rfl)))) hP 0 rfl dX5_letters_110 ?_
            refine lv_iconst (v := 4) hx hb dX5_letters_113 (by decide) ?_
            refine lv_iload_n hx hb dX5_letters_114 rfl (lv_at hl 1 rfl) ?_
            refine lv_iadd hx hb dX5_letters_115 ?_
            obtain ⟨hg38, h⟩ := gd_e h
            refine r_ia F hP 1 rfl rfl hg38 dX5_letters_116 ?_
            refine lv_iload_n hx hb dX5_letters_117 rfl (lv_at hl 2 rfl) ?_
            obtain ⟨r39, z_m_40, hk41, h⟩ := bd2_e h
            refine cV_i (rest := []) F (kX5_comesIn l D cI cJ H.size g a_z a_z_s a_z_m a_z_image a_z_was a_z_letters a_z_row a_z_refused a_z_numbers z_hasImage z_letterMany z_rowMany z_reading z_seed t37 (z_s (4 + x1_L24).toNatClampNeg) x2_L24 r39 z_m_40 hk41) (cwV 2 hts gX5_letters_X5_comesIn rfl rfl rfl eVX5_comesIn ⟨Nat.le_of_ble_eq_true rfl, Nat.le_of_ble_eq_true rfl⟩) [0, 2] hP hS (by decide) rfl rfl 0 rfl rfl rfl hl.1 (Nat.le_of_ble_eq_true rfl) ⟨Nat.le_refl _, Nat.le_refl _⟩ rfl dX5_letters_118 (fun H locs hP hS => ?_)
            have hP : WD D A [(a_z, .inr (5, [.ref a_z_s, .ref a_z_m, .ref a_z_image, .ref a_z_was, .int z_hasImage, .ref a_z_letters, .ref a_z_row, .ref a_z_refused, .int z_letterMany, .int z_rowMany, .int z_reading, .ref a_z_numbers, .int z_seed])), (a_z_s, .inl (cI, 45, .inl z_s)), (a_z_m, .inl (cI, 45, .inl z_m_40)), (a_z_refused, .inl (cI, 7, .inl z_refused_L24))] H := hP
            refine lv_if_lt (tgt := 128) hx hb dX5_letters_121 (by decide) (fun hc42 => ?_) (fun hc42 => ?_)
            · have h := it_p hc42 h
              refine lv_iinc (v := x5_L24 + 1) (lv' := [(5, .int (x5_L24 + 1)), (0, .ref a_z), (1, .int x1_L24), (2, .int x2_L24), (4, .int x4_L24)]) hx hb dX5_letters_128 hl (k := 4) rfl rfl (by decide) rfl (fun ls hl => ?_)
              refine lv_goto (tgt := 24) hx hb dX5_letters_131 (by decide) ?_
              exact ih x4_L24 (x5_L24 + 1) z_m_40 tt0 tt1 H locs ls h hP hS (lv_sub hl [1, 2, 3, 4, 0] rfl) kE
            · have h := it_n hc42 h
              refine lv_iload hx hb dX5_letters_124 (lv_at hl 4 rfl) ?_
              refine lv_istore (lv' := [(4, .int x5_L24), (0, .ref a_z), (1, .int x1_L24), (2, .int x2_L24), (5, .int x5_L24)]) hx hb dX5_letters_126 hl (by decide) rfl (fun ls hl => ?_)
              refine lv_iinc (v := x5_L24 + 1) (lv' := [(5, .int (x5_L24 + 1)), (4, .int x5_L24), (0, .ref a_z), (1, .int x1_L24), (2, .int x2_L24)]) hx hb dX5_letters_128 hl (k := 4) rfl rfl (by decide) rfl (fun ls hl => ?_)
              refine lv_goto (tgt := 24) hx hb dX5_letters_131 (by decide) ?_
              exact ih x5_L24 (x5_L24 + 1) z_m_40 tt0 tt1 H locs ls h hP hS (lv_sub hl [2, 3, 4, 1, 0] rfl) kE
          · have h := it_n hc34 h
            refine lv_goto (tgt := 128) hx hb dX5_letters_55 (by decide) ?_
            refine lv_iinc (v := x5_L24 + 1) (lv' := [(5, .int (x5_L24 + 1)), (0, .ref a_z), (1, .int x1_L24), (2, .int x2_L24), (4, .int x4_L24)]) hx hb dX5_letters_128 hl (k := 4) rfl rfl (by decide) rfl (fun ls hl => ?_)
            refine lv_goto (tgt := 24) hx hb dX5_letters_131 (by decide) ?_
            exact ih x4_L24 (x5_L24 + 1) z_m_L24 tt0 tt1 H locs ls h hP hS (lv_sub hl [1, 2, 3, 4, 0] rfl) kE
  have hl : lv_has ls 7 [(0, .ref a_z), (1, .int p0), (2, .int p1)] := hl
  have h := hf
  unfold fX5_letters at h
  refine lv_aload_n hx hb dX5_letters_0 rfl (lv_at hl 0 rfl) ?_
  refine lv_iload_n hx hb dX5_letters_1 rfl (lv_at hl 1 rfl) ?_
  refine lv_iload_n hx hb dX5_letters_2 rfl (lv_at hl 2 rfl) ?_
  obtain ⟨r9, hk10, h⟩ := bd1_e h
  refine cV_i (rest := []) F (kX5_wrongFor l D cI cJ H.size g a_z a_z_s a_z_m a_z_image a_z_was a_z_letters a_z_row a_z_refused a_z_numbers z_hasImage z_letterMany z_rowMany z_reading z_seed z_s p0 p1 r9 hk10) (cwV 2 hts gX5_letters_X5_wrongFor rfl rfl rfl eVX5_wrongFor ⟨Nat.le_of_ble_eq_true rfl, Nat.le_of_ble_eq_true rfl⟩) [0, 1] hP hS (by decide) rfl rfl 0 rfl rfl rfl hl.1 (Nat.le_of_ble_eq_true rfl) ⟨Nat.le_refl _, Nat.le_refl _⟩ rfl dX5_letters_3 (fun H locs hP hS => ?_)
  have hP : WD D A [(a_z, .inr (5, [.ref a_z_s, .ref a_z_m, .ref a_z_image, .ref a_z_was, .int z_hasImage, .ref a_z_letters, .ref a_z_row, .ref a_z_refused, .int z_letterMany, .int z_rowMany, .int z_reading, .ref a_z_numbers, .int z_seed])), (a_z_s, .inl (cI, 45, .inl z_s)), (a_z_m, .inl (cI, 45, .inl z_m)), (a_z_refused, .inl (cI, 7, .inl z_refused))] H := hP
  refine lv_istore_n (lv' := [(3, .int r9), (0, .ref a_z), (1, .int p0), (2, .int p1)]) hx hb dX5_letters_6 rfl hl (by decide) rfl (fun ls hl => ?_)
  refine lv_iload_n hx hb dX5_letters_7 rfl (lv_at hl 0 rfl) ?_
  refine lv_if_eq (tgt := 17) hx hb dX5_letters_8 (by decide) (fun hc11 => ?_) (fun hc11 => ?_)
  · have h := it_p hc11 h
    refine lv_bipush (v := (-9)) hx hb dX5_letters_17 (by decide) ?_
    refine lv_istore (lv' := [(4, .int (-9)), (3, .int r9), (0, .ref a_z), (1, .int p0), (2, .int p1)]) hx hb dX5_letters_19 hl (by decide) rfl (fun ls hl => ?_)
    refine lv_iconst (v := 0) hx hb dX5_letters_21 (by decide) ?_
    refine lv_istore (lv' := [(5, .int 0), (4, .int (-9)), (3, .int r9), (0, .ref a_z), (1, .int p0), (2, .int p1)]) hx hb dX5_letters_22 hl (by decide) rfl (fun ls hl => ?_)
    obtain ⟨t45, t46, hk47, h⟩ := bd2_e h
    refine L24 p0 p1 z_refused g (-9) 0 z_m t45 t46 H locs ls hk47 hP hS (lv_sub hl [3, 4, 5, 1, 0] rfl) (fun H locs ls hP hS hl => ?_)
    refine lv_iload hx hb dX5_letters_134 (lv_at hl 0 rfl) ?_
    exact hret 136 H locs ls t45 t46 z_refused h rfl dX5_letters_136 hP hS
  · have h := it_n hc11 h
    refine lv_aload_n hx hb dX5_letters_11 rfl (lv_at hl 1 rfl) ?_
    refine lv_iload_n hx hb dX5_letters_12 rfl (lv_at hl 0 rfl) ?_
    obtain ⟨r49, z_refused_50, hk51, h⟩ := bd2_e h
    refine cV_i (rest := []) F (kX5_no l D cI cJ H.size g a_z a_z_s a_z_m a_z_image a_z_was a_z_letters a_z_row a_z_refused a_z_numbers z_hasImage z_letterMany z_rowMany z_reading z_seed z_refused r9 r49 z_refused_50 hk51) (cwV 1 hts gX5_letters_X5_no rfl rfl rfl eVX5_no ⟨Nat.le_of_ble_eq_true rfl, Nat.le_of_ble_eq_true rfl⟩) [0, 3] hP hS (by decide) rfl rfl 0 rfl rfl rfl hl.1 (Nat.le_of_ble_eq_true rfl) ⟨Nat.le_refl _, Nat.le_refl _⟩ rfl dX5_letters_13 (fun H locs hP hS => ?_)
    have hP : WD D A [(a_z, .inr (5, [.ref a_z_s, .ref a_z_m, .ref a_z_image, .ref a_z_was, .int z_hasImage, .ref a_z_letters, .ref a_z_row, .ref a_z_refused, .int z_letterMany, .int z_rowMany, .int z_reading, .ref a_z_numbers, .int z_seed])), (a_z_s, .inl (cI, 45, .inl z_s)), (a_z_m, .inl (cI, 45, .inl z_m)), (a_z_refused, .inl (cI, 7, .inl z_refused_50))] H := hP
    exact hret 16 H locs ls r49 z_m z_refused_50 h rfl dX5_letters_16 hP hS
theorem eSX5_turners : yX5_turners.cls ≠ "java/lang/invoke/MethodHandle" ∧ yX5_turners.cls ≠ "java/lang/invoke/VarHandle" ∧ (parseMethodDescriptor yX5_turners.desc).map (fun d => d.parameters.length) = some 0 := by decide +kernel
theorem eVX5_turners : yX5_turners.cls = RX5 ∧ yX5_turners.cls ≠ "java/lang/invoke/MethodHandle" ∧ yX5_turners.cls ≠ "java/lang/invoke/VarHandle" ∧ (parseMethodDescriptor yX5_turners.desc).map (fun d => d.parameters.length) = some 0 := ⟨rfl, eSX5_turners⟩
abbrev rmX5_turners : Room := { frames := 5, cells := 0, slots := 0, locals := 112 }
def fX5_turners_L4_b (g : Nat) (z_s : Nat → Int32) (self : Int32 → Int32 → Option (Int32)) (x1_L4 : Int32) (x2_L4 : Int32) : Option (Int32) := if (z_s 1) ≤ x2_L4 then (some x1_L4) else (bd1 (fX5_isAboard g x2_L4 z_s) fun r3 => (if r3 = 0 then (self (x1_L4 ||| 0) (x2_L4 + 1)) else (bd1 (fX5_needleIn g x2_L4 z_s) fun r6 => (bd1 (fX5_needleIn g (-9) z_s) fun r8 => (if r6 = r8 then (self (x1_L4 ||| 0) (x2_L4 + 1)) else (self (x1_L4 ||| (1 <<< (x2_L4 &&& 31))) (x2_L4 + 1)))))))
def fX5_turners_L4 (g : Nat) (z_s : Nat → Int32) (n : Nat) : Int32 → Int32 → Option (Int32) := lp (fX5_turners_L4_b g z_s) (fun _ _ => none) n
def fX5_turners (g : Nat) (z_s : Nat → Int32) : Option (Int32) := bd1 (fX5_turners_L4 g z_s g 0 0) fun t11 => (some t11)
set_option maxHeartbeats 4000000 in
set_option maxRecDepth 100000 in
theorem kX5_turners (l : Launch) (D : va_G) (cI cJ : ClassId) (sz g : Nat) (a_z a_z_s a_z_m a_z_image a_z_was a_z_letters a_z_row a_z_refused a_z_numbers : Nat) (z_hasImage : Int32) (z_letterMany : Int32) (z_rowMany : Int32) (z_reading : Int32) (z_seed : Int32) (z_s : Nat → Int32) (r : Int32) (hf : fX5_turners g z_s = some r) : Met l yX5_turners wsX5_turners rmX5_turners (va_Pc [.ref a_z] (sPc D (tyL cI cJ) [(a_z, .inr (5, [.ref a_z_s, .ref a_z_m, .ref a_z_image, .ref a_z_was, .int z_hasImage, .ref a_z_letters, .ref a_z_row, .ref a_z_refused, .int z_letterMany, .int z_rowMany, .int z_reading, .ref a_z_numbers, .int z_seed])), (a_z_s, .inl (cI, 45, .inl z_s))] sz)) (qI D (tyL cI cJ) [(a_z, .inr (5, [.ref a_z_s, .ref a_z_m, .ref a_z_image, .ref a_z_was, .int z_hasImage, .ref a_z_letters, .ref a_z_row, .ref a_z_refused, .int z_letterMany, .int z_rowMany, .int z_reading, .ref a_z_numbers, .int z_seed])), (a_z_s, .inl (cI, 45, .inl z_s))] sz [(a_z, .inr (5, [.ref a_z_s, .ref a_z_m, .ref a_z_image, .ref a_z_was, .int z_hasImage, .ref a_z_letters, .ref a_z_row, .ref a_z_refused, .int z_letterMany, .int z_rowMany, .int z_reading, .ref a_z_numbers, .int z_seed])), (a_z_s, .inl (cI, 45, .inl z_s))] r) 0 0 (va_A [(a_z, .inr (5, [.ref a_z_s, .ref a_z_m, .ref a_z_image, .ref a_z_was, .int z_hasImage, .ref a_z_letters, .ref a_z_row, .ref a_z_refused, .int z_letterMany, .int z_rowMany, .int z_reading, .ref a_z_numbers, .int z_seed])), (a_z_s, .inl (cI, 45, .inl z_s))] sz) := by
  refine st_i (cc := cX5_turners) (maxL := 3) (by decide) rfl (Nat.le_of_ble_eq_true rfl) ?_
  intro p e s m args below meth c A Q F hret0 H locs hP hS ls hl
  have F : Cx p s m args c cX5_turners 3 wsX5_turners RX5 D (tyL cI cJ) A := F
  have hx := F.1.1
  have hb := F.1.2.1
  have hown := F.1.2.2.2.1
  have hts := F.1.2.2.2.2
  have iX5 : ∀ w ∈ wsX50, w ∈ wsX5_turners := fun w h => (List.mem_cons_of_mem _ (List.mem_append_right _ h))
  have hret : ∀ (pc : Nat) (H : Heap) (locs : List Loc) (ls : Array Slot) (r' : Int32), some r' = some r → narrow .int (.int r') = .int r' → decode cX5_turners pc = .ok (.ireturn, 1) → WD D A [(a_z, .inr (5, [.ref a_z_s, .ref a_z_m, .ref a_z_image, .ref a_z_was, .int z_hasImage, .ref a_z_letters, .ref a_z_row, .ref a_z_refused, .int z_letterMany, .int z_rowMany, .int z_reading, .ref a_z_numbers, .int z_seed])), (a_z_s, .inl (cI, 45, .inl z_s))] H → va_S A s.heap H locs → W p l e rmX5_turners s m args below meth c H locs 0 0 Q (F0 m pc ls [.int r']) := by
    intro pc H locs ls r' h hn hd hP hS
    cases h
    exact hret0 pc H locs ls hn hd hP hS
  have L4 : ∀ (n : Nat) (x1_L4 : Int32) (x2_L4 : Int32) (tt0 : Int32) (H : Heap) (locs : List Loc) (ls : Array Slot), fX5_turners_L4 g z_s n x1_L4 x2_L4 = some tt0 → WD D A [(a_z, .inr (5, [.ref a_z_s, .ref a_z_m, .ref a_z_image, .ref a_z_was, .int z_hasImage, .ref a_z_letters, .ref a_z_row, .ref a_z_refused, .int z_letterMany, .int z_rowMany, .int z_reading, .ref a_z_numbers, .int z_seed])), (a_z_s, .inl (cI, 45, .inl z_s))] H → va_S A s.heap H locs → lv_has ls 3 [(0, .ref a_z), (1, .int x1_L4), (2, .int x2_L4)] → (∀ (H : Heap) (locs : List Loc) (ls : Array Slot), WD D A [(a_z, .inr (5, [.ref a_z_s, .ref a_z_m, .ref a_z_image, .ref a_z_was, .int z_hasImage, .ref a_z_letters, .ref a_z_row, .ref a_z_refused, .int z_letterMany, .int z_rowMany, .int z_reading, .ref a_z_numbers, .int z_seed])), (a_z_s, .inl (cI, 45, .inl z_s))] H → va_S A s.heap H locs → lv_has ls 3 [(1, .int tt0)] → W p l e rmX5_turners s m args below meth c H locs 0 0 Q (F0 m 61 ls [])) → W p l e rmX5_turners s m args below meth c H locs 0 0 Q (F0 m 4 ls []) := by
    intro n
    induction n with
    | zero =>
      intro x1_L4 x2_L4 tt0 H locs ls h
      exact (no_some h).elim
    | succ n ih =>
      intro x1_L4 x2_L4 tt0 H locs ls h hP hS hl kE
      have h : fX5_turners_L4_b g z_s (fX5_turners_L4 g z_s n) x1_L4 x2_L4 = some tt0 := h
      unfold fX5_turners_L4_b at h
      refine lv_iload_n hx hb dX5_turners_4 rfl (lv_at hl 2 rfl) ?_
      refine lv_aload_n hx hb dX5_turners_5 rfl (lv_at hl 0 rfl) ?_
      refine gt_X5_9 F iX5 (List.mem_cons_of_mem _ (List.mem_append_left _ (List.mem_append_left _ (List.mem_of_getElem? (i := 0) rfl)))) hP 0 rfl dX5_turners_6 ?_
      refine lv_iconst (v := 1) hx hb dX5_turners_9 (by decide) ?_
      refine r_ia F hP 1 rfl (j := 1) rfl (by decide) dX5_turners_10 ?_
      refine lv_icmp_ge (tgt := 61) hx hb dX5_turners_11 (by decide) (fun hc2 => ?_) (fun hc2 => ?_)
      · have h := it_p hc2 h
        cases h
        exact kE H locs ls hP hS (lv_sub hl [1] rfl)
      · have h := it_n hc2 h
        refine lv_iload_n hx hb dX5_turners_14 rfl (lv_at hl 1 rfl) ?_
        refine lv_aload_n hx hb dX5_turners_15 rfl (lv_at hl 0 rfl) ?_
        refine gt_X5_9 F iX5 (List.mem_cons_of_mem _ (List.mem_append_left _ (List.mem_append_left _ (List.mem_of_getElem? (i := 0) rfl)))) hP 0 rfl dX5_turners_16 ?_
        refine lv_iload_n hx hb dX5_turners_19 rfl (lv_at hl 2 rfl) ?_
        obtain ⟨r3, hk4, h⟩ := bd1_e h
        refine cS_i (rest := [.int x1_L4]) F (kX5_isAboard l D cI cJ H.size g a_z_s z_s x2_L4 r3 hk4) (va_cwS 2 hts gX5_turners_X5_isAboard rfl rfl rfl eSX5_isAboard ⟨Nat.le_of_ble_eq_true rfl, Nat.le_of_ble_eq_true rfl⟩) [1] hP hS (by decide) rfl rfl rfl hl.1 (Nat.le_of_ble_eq_true rfl) ⟨Nat.le_refl _, Nat.le_refl _⟩ rfl dX5_turners_20 (fun H locs hP hS => ?_)
        have hP : WD D A [(a_z, .inr (5, [.ref a_z_s, .ref a_z_m, .ref a_z_image, .ref a_z_was, .int z_hasImage, .ref a_z_letters, .ref a_z_row, .ref a_z_refused, .int z_letterMany, .int z_rowMany, .int z_reading, .ref a_z_numbers, .int z_seed])), (a_z_s, .inl (cI, 45, .inl z_s))] H := hP
        refine lv_if_eq (tgt := 52) hx hb dX5_turners_23 (by decide) (fun hc5 => ?_) (fun hc5 => ?_)
        · have h := it_p hc5 h
          refine lv_iconst (v := 0) hx hb dX5_turners_52 (by decide) ?_
          refine lv_ior hx hb dX5_turners_53 ?_
          refine lv_istore_n (lv' := [(1, .int (x1_L4 ||| 0)), (0, .ref a_z), (2, .int x2_L4)]) hx hb dX5_turners_54 rfl hl (by decide) rfl (fun ls hl => ?_)
          refine lv_iinc (v := x2_L4 + 1) (lv' := [(2, .int (x2_L4 + 1)), (1, .int (x1_L4 ||| 0)), (0, .ref a_z)]) hx hb dX5_turners_55 hl (k := 2) rfl rfl (by decide) rfl (fun ls hl => ?_)
          refine lv_goto (tgt := 4) hx hb dX5_turners_58 (by decide) ?_
          exact ih (x1_L4 ||| 0) (x2_L4 + 1) tt0 H locs ls h hP hS (lv_sub hl [2, 1, 0] rfl) kE
        · have h := it_n hc5 h
          refine lv_aload_n hx hb dX5_turners_26 rfl (lv_at hl 0 rfl) ?_
          refine gt_X5_9 F iX5 (List.mem_cons_of_mem _ (List.mem_append_left _ (List.mem_append_left _ (List.mem_of_getElem? (i := 0) rfl)))) hP 0 rfl dX5_turners_27 ?_
          refine lv_iload_n hx hb dX5_turners_30 rfl (lv_at hl 2 rfl) ?_
          obtain ⟨r6, hk7, h⟩ := bd1_e h
          refine cS_i (rest := [.int x1_L4]) F (kX5_needleIn l D cI cJ H.size g a_z_s z_s x2_L4 r6 hk7) (va_cwS 2 hts gX5_turners_X5_needleIn rfl rfl rfl eSX5_needleIn ⟨Nat.le_of_ble_eq_true rfl, Nat.le_of_ble_eq_true rfl⟩) [1] hP hS (by decide) rfl rfl rfl hl.1 (Nat.le_of_ble_eq_true rfl) ⟨Nat.le_refl _, Nat.le_refl _⟩ rfl dX5_turners_31 (fun H locs hP hS => ?_)
          have hP : WD D A [(a_z, .inr (5, [.ref a_z_s, .ref a_z_m, .ref a_z_image, .ref a_z_was, .int z_hasImage, .ref a_z_letters, .ref a_z_row, .ref a_z_refused, .int z_letterMany, .int z_rowMany, .int z_reading, .ref a_z_numbers, .int z_seed])), (a_z_s, .inl (cI, 45, .inl z_s))] H := hP
          refine lv_aload_n hx hb dX5_turners_34 rfl (lv_at hl 0 rfl) ?_
          refine gt_X5_9 F iX5 (List.mem_cons_of_mem _ (List.mem_append_left _ (List.mem_append_left _ (List.mem_of_getElem? (i := 0) rfl)))) hP 0 rfl dX5_turners_35 ?_
          refine lv_bipush (v := (-9)) hx hb dX5_turners_38 (by decide) ?_
          obtain ⟨r8, hk9, h⟩ := bd1_e h
          refine cS_i (rest := [.int r6, .int x1_L4]) F (kX5_needleIn l D cI cJ H.size g a_z_s z_s (-9) r8 hk9) (va_cwS 2 hts gX5_turners_X5_needleIn rfl rfl rfl eSX5_needleIn ⟨Nat.le_of_ble_eq_true rfl, Nat.le_of_ble_eq_true rfl⟩) [1] hP hS (by decide) rfl rfl rfl hl.1 (Nat.le_of_ble_eq_true rfl) ⟨Nat.le_refl _, Nat.le_refl _⟩ rfl dX5_turners_40 (fun H locs hP hS => ?_)
          have hP : WD D A [(a_z, .inr (5, [.ref a_z_s, .ref a_z_m, .ref a_z_image, .ref a_z_was, .int z_hasImage, .ref a_z_letters, .ref a_z_row, .ref a_z_refused, .int z_letterMany, .int z_rowMany, .int z_reading, .ref a_z_numbers, .int z_seed])), (a_z_s, .inl (cI, 45, .inl z_s))] H := hP
          refine lv_icmp_eq (tgt := 52) hx hb dX5_turners_43 (by decide) (fun hc10 => ?_) (fun hc10 => ?_)
          · have h := it_p hc10 h
            refine lv_iconst (v := 0) hx hb dX5_turners_52 (by decide) ?_
            refine lv_ior hx hb dX5_turners_53 ?_
            refine lv_istore_n (lv' := [(1, .int (x1_L4 ||| 0)), (0, .ref a_z), (2, .int x2_L4)]) hx hb dX5_turners_54 rfl hl (by decide) rfl (fun ls hl => ?_)
            refine lv_iinc (v := x2_L4 + 1) (lv' := [(2, .int (x2_L4 + 1)), (1, .int (x1_L4 ||| 0)), (0, .ref a_z)]) hx hb dX5_turners_55 hl (k := 2) rfl rfl (by decide) rfl (fun ls hl => ?_)
            refine lv_goto (tgt := 4) hx hb dX5_turners_58 (by decide) ?_
            exact ih (x1_L4 ||| 0) (x2_L4 + 1) tt0 H locs ls h hP hS (lv_sub hl [2, 1, 0] rfl) kE
          · have h := it_n hc10 h
            refine lv_iconst (v := 1) hx hb dX5_turners_46 (by decide) ?_
            refine lv_iload_n hx hb dX5_turners_47 rfl (lv_at hl 2 rfl) ?_
            refine lv_ishl hx hb dX5_turners_48 ?_
            refine lv_goto (tgt := 53) hx hb dX5_turners_49 (by decide) ?_
            refine lv_ior hx hb dX5_turners_53 ?_
            refine lv_istore_n (lv' := [(1, .int (x1_L4 ||| (1 <<< (x2_L4 &&& 31)))), (0, .ref a_z), (2, .int x2_L4)]) hx hb dX5_turners_54 rfl hl (by decide) rfl (fun ls hl => ?_)
            refine lv_iinc (v := x2_L4 + 1) (lv' := [(2, .int (x2_L4 + 1)), (1, .int (x1_L4 ||| (1 <<< (x2_L4 &&& 31)))), (0, .ref a_z)]) hx hb dX5_turners_55 hl (k := 2) rfl rfl (by decide) rfl (fun ls hl => ?_)
            refine lv_goto (tgt := 4) hx hb dX5_turners_58 (by decide) ?_
            exact ih (x1_L4 ||| (1 <<< (x2_L4 &&& 31))) (x2_L4 + 1) tt0 H locs ls h hP hS (lv_sub hl [2, 1, 0] rfl) kE
  have hl : lv_has ls 3 [(0, .ref a_z)] := hl
  have h := hf
  unfold fX5_turners at h
  refine lv_iconst (v := 0) hx hb dX5_turners_0 (by decide) ?_
  refine lv_istore_n (lv' := [(1, .int 0), (0, .ref a_z)]) hx hb dX5_turners_1 rfl hl (by decide) rfl (fun ls hl => ?_)
  refine lv_iconst (v := 0) hx hb dX5_turners_2 (by decide) ?_
  refine lv_istore_n (lv' := [(2, .int 0), (1, .int 0), (0, .ref a_z)]) hx hb dX5_turners_3 rfl hl (by decide) rfl (fun ls hl => ?_)
  obtain ⟨t11, hk12, h⟩ := bd1_e h
  refine L4 g 0 0 t11 H locs ls hk12 hP hS (lv_sub hl [2, 1, 0] rfl) (fun H locs ls hP hS hl => ?_)
  refine lv_iload_n hx hb dX5_turners_61 rfl (lv_at hl 0 rfl) ?_
  exact hret 62 H locs ls t11 h rfl dX5_turners_62 hP hS
theorem eSX5_pull : yX5_pull.cls ≠ "java/lang/invoke/MethodHandle" ∧ yX5_pull.cls ≠ "java/lang/invoke/VarHandle" ∧ (parseMethodDescriptor yX5_pull.desc).map (fun d => d.parameters.length) = some 1 := by decide +kernel
theorem eVX5_pull : yX5_pull.cls = RX5 ∧ yX5_pull.cls ≠ "java/lang/invoke/MethodHandle" ∧ yX5_pull.cls ≠ "java/lang/invoke/VarHandle" ∧ (parseMethodDescriptor yX5_pull.desc).map (fun d => d.parameters.length) = some 1 := ⟨rfl, eSX5_pull⟩
abbrev rmX5_pull : Room := { frames := 4, cells := 0, slots := 0, locals := 89 }
def fX5_pull (g : Nat) (p0 : Int32) (z_s : Nat → Int32) (z_refused : Nat → Int32) : Option (Int32 × (Nat → Int32)) := bd1 (fX5_isIn g p0 0 1) fun r9 => (if r9 = 0 then (bd2 (fX5_noFar g (-2) z_refused) fun r12 z_refused_13 => (some (r12, z_refused_13))) else (bd1 (fX5_pullIn g p0 (-9) z_s) fun r15 => (some (r15, z_refused))))
set_option maxHeartbeats 4000000 in
set_option maxRecDepth 100000 in
theorem kX5_pull (l : Launch) (D : va_G) (cI cJ : ClassId) (sz g : Nat) (a_z a_z_s a_z_m a_z_image a_z_was a_z_letters a_z_row a_z_refused a_z_numbers : Nat) (z_hasImage : Int32) (z_letterMany : Int32) (z_rowMany : Int32) (z_reading : Int32) (z_seed : Int32) (z_s : Nat → Int32) (z_refused : Nat → Int32) (p0 : Int32) (r : Int32) (n_z_refused : Nat → Int32) (hf : fX5_pull g p0 z_s z_refused = some (r, n_z_refused)) : Met l yX5_pull wsX5_pull rmX5_pull (va_Pc [.ref a_z, .int p0] (sPc D (tyL cI cJ) [(a_z, .inr (5, [.ref a_z_s, .ref a_z_m, .ref a_z_image, .ref a_z_was, .int z_hasImage, .ref a_z_letters, .ref a_z_row, .ref a_z_refused, .int z_letterMany, .int z_rowMany, .int z_reading, .ref a_z_numbers, .int z_seed])), (a_z_s, .inl (cI, 45, .inl z_s)), (a_z_refused, .inl (cI, 7, .inl z_refused))] sz)) (qI D (tyL cI cJ) [(a_z, .inr (5, [.ref a_z_s, .ref a_z_m, .ref a_z_image, .ref a_z_was, .int z_hasImage, .ref a_z_letters, .ref a_z_row, .ref a_z_refused, .int z_letterMany, .int z_rowMany, .int z_reading, .ref a_z_numbers, .int z_seed])), (a_z_s, .inl (cI, 45, .inl z_s)), (a_z_refused, .inl (cI, 7, .inl z_refused))] sz [(a_z, .inr (5, [.ref a_z_s, .ref a_z_m, .ref a_z_image, .ref a_z_was, .int z_hasImage, .ref a_z_letters, .ref a_z_row, .ref a_z_refused, .int z_letterMany, .int z_rowMany, .int z_reading, .ref a_z_numbers, .int z_seed])), (a_z_s, .inl (cI, 45, .inl z_s)), (a_z_refused, .inl (cI, 7, .inl n_z_refused))] r) 0 0 (va_A [(a_z, .inr (5, [.ref a_z_s, .ref a_z_m, .ref a_z_image, .ref a_z_was, .int z_hasImage, .ref a_z_letters, .ref a_z_row, .ref a_z_refused, .int z_letterMany, .int z_rowMany, .int z_reading, .ref a_z_numbers, .int z_seed])), (a_z_s, .inl (cI, 45, .inl z_s)), (a_z_refused, .inl (cI, 7, .inl z_refused))] sz) := by
  refine st_i (cc := cX5_pull) (maxL := 2) (by decide) rfl (Nat.le_of_ble_eq_true rfl) ?_
  intro p e s m args below meth c A Q F hret0 H locs hP hS ls hl
  have F : Cx p s m args c cX5_pull 2 wsX5_pull RX5 D (tyL cI cJ) A := F
  have hx := F.1.1
  have hb := F.1.2.1
  have hown := F.1.2.2.2.1
  have hts := F.1.2.2.2.2
  have iX5 : ∀ w ∈ wsX50, w ∈ wsX5_pull := fun w h => (List.mem_cons_of_mem _ (List.mem_append_right _ h))
  have hret : ∀ (pc : Nat) (H : Heap) (locs : List Loc) (ls : Array Slot) (r' : Int32) (m_z_refused : Nat → Int32), some (r', m_z_refused) = some (r, n_z_refused) → narrow .int (.int r') = .int r' → decode cX5_pull pc = .ok (.ireturn, 1) → WD D A [(a_z, .inr (5, [.ref a_z_s, .ref a_z_m, .ref a_z_image, .ref a_z_was, .int z_hasImage, .ref a_z_letters, .ref a_z_row, .ref a_z_refused, .int z_letterMany, .int z_rowMany, .int z_reading, .ref a_z_numbers, .int z_seed])), (a_z_s, .inl (cI, 45, .inl z_s)), (a_z_refused, .inl (cI, 7, .inl m_z_refused))] H → va_S A s.heap H locs → W p l e rmX5_pull s m args below meth c H locs 0 0 Q (F0 m pc ls [.int r']) := by
    intro pc H locs ls r' m_z_refused h hn hd hP hS
    cases h
    exact hret0 pc H locs ls hn hd hP hS
  have hl : lv_has ls 2 [(0, .ref a_z), (1, .int p0)] := hl
  have h := hf
  unfold fX5_pull at h
  refine lv_iload_n hx hb dX5_pull_0 rfl (lv_at hl 1 rfl) ?_
  refine lv_iconst (v := 0) hx hb dX5_pull_1 (by decide) ?_
  refine lv_iconst (v := 1) hx hb dX5_pull_2 (by decide) ?_
  obtain ⟨r9, hk10, h⟩ := bd1_e h
  refine cS_i (rest := []) F (kX5_isIn l D cI cJ H.size g p0 0 1 r9 hk10) (va_cwS 3 hts gX5_pull_X5_isIn rfl rfl rfl eSX5_isIn ⟨Nat.le_of_ble_eq_true rfl, Nat.le_of_ble_eq_true rfl⟩) [] hP hS (by decide) rfl rfl rfl hl.1 (Nat.le_of_ble_eq_true rfl) ⟨Nat.le_refl _, Nat.le_refl _⟩ rfl dX5_pull_3 (fun H locs hP hS => ?_)
  have hP : WD D A [(a_z, .inr (5, [.ref a_z_s, .ref a_z_m, .ref a_z_image, .ref a_z_was, .int z_hasImage, .ref a_z_letters, .ref a_z_row, .ref a_z_refused, .int z_letterMany, .int z_rowMany, .int z_reading, .ref a_z_numbers, .int z_seed])), (a_z_s, .inl (cI, 45, .inl z_s)), (a_z_refused, .inl (cI, 7, .inl z_refused))] H := hP
  refine lv_if_eq (tgt := 22) hx hb dX5_pull_6 (by decide) (fun hc11 => ?_) (fun hc11 => ?_)
  · have h := it_p hc11 h
    refine lv_aload_n hx hb dX5_pull_22 rfl (lv_at hl 0 rfl) ?_
    refine lv_bipush (v := (-2)) hx hb dX5_pull_23 (by decide) ?_
    obtain ⟨r12, z_refused_13, hk14, h⟩ := bd2_e h
    refine cV_i (rest := []) F (kX5_noFar l D cI cJ H.size g a_z a_z_s a_z_m a_z_image a_z_was a_z_letters a_z_row a_z_refused a_z_numbers z_hasImage z_letterMany z_rowMany z_reading z_seed z_refused (-2) r12 z_refused_13 hk14) (cwV 1 hts gX5_pull_X5_noFar rfl rfl rfl eVX5_noFar ⟨Nat.le_of_ble_eq_true rfl, Nat.le_of_ble_eq_true rfl⟩) [0, 2] hP hS (by decide) rfl rfl 0 rfl rfl rfl hl.1 (Nat.le_of_ble_eq_true rfl) ⟨Nat.le_refl _, Nat.le_refl _⟩ rfl dX5_pull_25 (fun H locs hP hS => ?_)
    have hP : WD D A [(a_z, .inr (5, [.ref a_z_s, .ref a_z_m, .ref a_z_image, .ref a_z_was, .int z_hasImage, .ref a_z_letters, .ref a_z_row, .ref a_z_refused, .int z_letterMany, .int z_rowMany, .int z_reading, .ref a_z_numbers, .int z_seed])), (a_z_s, .inl (cI, 45, .inl z_s)), (a_z_refused, .inl (cI, 7, .inl z_refused_13))] H := hP
    exact hret 28 H locs ls r12 z_refused_13 h rfl dX5_pull_28 hP hS
  · have h := it_n hc11 h
    refine lv_aload_n hx hb dX5_pull_9 rfl (lv_at hl 0 rfl) ?_
    refine gt_X5_9 F iX5 (List.mem_cons_of_mem _ (List.mem_append_left _ (List.mem_append_left _ (List.mem_of_getElem? (i := 0) rfl)))) hP 0 rfl dX5_pull_10 ?_
    refine lv_iload_n hx hb dX5_pull_13 rfl (lv_at hl 1 rfl) ?_
    refine lv_bipush (v := (-9)) hx hb dX5_pull_14 (by decide) ?_
    obtain ⟨r15, hk16, h⟩ := bd1_e h
    refine cS_i (rest := []) F (kX5_pullIn l D cI cJ H.size g a_z_s z_s p0 (-9) r15 hk16) (va_cwS 3 hts gX5_pull_X5_pullIn rfl rfl rfl eSX5_pullIn ⟨Nat.le_of_ble_eq_true rfl, Nat.le_of_ble_eq_true rfl⟩) [1] hP hS (by decide) rfl rfl rfl hl.1 (Nat.le_of_ble_eq_true rfl) ⟨Nat.le_refl _, Nat.le_refl _⟩ rfl dX5_pull_16 (fun H locs hP hS => ?_)
    have hP : WD D A [(a_z, .inr (5, [.ref a_z_s, .ref a_z_m, .ref a_z_image, .ref a_z_was, .int z_hasImage, .ref a_z_letters, .ref a_z_row, .ref a_z_refused, .int z_letterMany, .int z_rowMany, .int z_reading, .ref a_z_numbers, .int z_seed])), (a_z_s, .inl (cI, 45, .inl z_s)), (a_z_refused, .inl (cI, 7, .inl z_refused))] H := hP
    refine lv_goto (tgt := 28) hx hb dX5_pull_19 (by decide) ?_
    exact hret 28 H locs ls r15 z_refused h rfl dX5_pull_28 hP hS
