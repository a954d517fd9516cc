theorem eSX5_two : yX5_two.cls ≠ "java/lang/invoke/MethodHandle" ∧ yX5_two.cls ≠ "java/lang/invoke/VarHandle" ∧ (parseMethodDescriptor yX5_two.desc).map (fun d => d.parameters.length) = some 3 := by decide +kernel
theorem eVX5_two : yX5_two.cls = RX5 ∧ yX5_two.cls ≠ "java/lang/invoke/MethodHandle" ∧ yX5_two.cls ≠ "java/lang/invoke/VarHandle" ∧ (parseMethodDescriptor yX5_two.desc).map (fun d => d.parameters.length) = some 3 := ⟨rfl, eSX5_two⟩
abbrev rmX5_two : Room := { frames := 8, cells := 0, slots := 0, locals := 183 }
def fX5_two_L49_b (g : Nat) (x1_L49 : Int32) (x2_L49 : Int32) (x3_L49 : Int32) (z_s : Nat → Int32) (z_refused_L49 : Nat → Int32) (self : Int32 → (Nat → Int32) → Option (((Nat → Int32)) ⊕ (Int32 × (Nat → Int32) × (Nat → Int32)))) (x5_L49 : Int32) (z_m_L49 : Nat → Int32) : Option (((Nat → Int32)) ⊕ (Int32 × (Nat → Int32) × (Nat → Int32))) := if 4 ≤ x5_L49 then (some (.inl z_m_L49)) else (bd2 (fX5_offBy g x1_L49 x1_L49 (1 - (x5_L49 / 2)) x2_L49 (x5_L49 - x5_L49 / 2 * 2) x3_L49 z_s z_m_L49) fun r35 z_m_36 => (bd2 (fX5_offBy g x1_L49 x1_L49 (x5_L49 / 2) x2_L49 (x5_L49 - x5_L49 / 2 * 2) x3_L49 z_s z_m_36) fun r38 z_m_39 => (if r35 < r38 then (self (x5_L49 + 1) z_m_39) else (bd2 (fX5_offBy g x2_L49 x1_L49 (x5_L49 / 2) x2_L49 (1 - (x5_L49 - x5_L49 / 2 * 2)) x3_L49 z_s z_m_39) fun r42 z_m_43 => (bd2 (fX5_offBy g x2_L49 x1_L49 (x5_L49 / 2) x2_L49 (x5_L49 - x5_L49 / 2 * 2) x3_L49 z_s z_m_43) fun r45 z_m_46 => (if r42 < r45 then (self (x5_L49 + 1) z_m_46) else (some (.inr ((10 * (x5_L49 / 2)) + (x5_L49 - x5_L49 / 2 * 2), z_m_46, z_refused_L49)))))))))
def fX5_two_L49 (g : Nat) (x1_L49 : Int32) (x2_L49 : Int32) (x3_L49 : Int32) (z_s : Nat → Int32) (z_refused_L49 : Nat → Int32) (n : Nat) : Int32 → (Nat → Int32) → Option (((Nat → Int32)) ⊕ (Int32 × (Nat → Int32) × (Nat → Int32))) := lp (fX5_two_L49_b g x1_L49 x2_L49 x3_L49 z_s z_refused_L49) (fun _ _ => none) n
def fX5_two (g : Nat) (p0 : Int32) (p1 : Int32) (p2 : Int32) (z_s : Nat → Int32) (z_m : Nat → Int32) (z_refused : Nat → Int32) : Option (Int32 × (Nat → Int32) × (Nat → Int32)) := bd1 (fX5_isHand g p0 z_s) fun r30 => (if r30 = 0 then (if ((-1) : Int32) = 0 then (bs1 (fX5_two_L49 g p0 p1 p2 z_s z_refused g 0 z_m) (fun q => some q) fun t49 => (some ((-9), t49, z_refused))) else (bd2 (fX5_no g (-1) z_refused) fun r53 z_refused_54 => (some (r53, z_m, z_refused_54)))) else (bd1 (fX5_isHand g p1 z_s) fun r56 => (if r56 = 0 then (if ((-1) : Int32) = 0 then (bs1 (fX5_two_L49 g p0 p1 p2 z_s z_refused g 0 z_m) (fun q => some q) fun t60 => (some ((-9), t60, z_refused))) else (bd2 (fX5_no g (-1) z_refused) fun r64 z_refused_65 => (some (r64, z_m, z_refused_65)))) else (if p0 = p1 then (if ((-1) : Int32) = 0 then (bs1 (fX5_two_L49 g p0 p1 p2 z_s z_refused g 0 z_m) (fun q => some q) fun t69 => (some ((-9), t69, z_refused))) else (bd2 (fX5_no g (-1) z_refused) fun r73 z_refused_74 => (some (r73, z_m, z_refused_74)))) else (bd1 (fX5_wrongBy g p2 0 30) fun r76 => (if r76 = 0 then (bs1 (fX5_two_L49 g p0 p1 p2 z_s z_refused g 0 z_m) (fun q => some q) fun t79 => (some ((-9), t79, z_refused))) else (bd2 (fX5_no g r76 z_refused) fun r83 z_refused_84 => (some (r83, z_m, z_refused_84)))))))))
set_option maxHeartbeats 4000000 in
set_option maxRecDepth 100000 in
theorem kX5_two (l : Launch) (D : va_G) (cI cJ : ClassId) (sz g : Nat) (a_z a_z_s a_z_m a_z_image a_z_was a_z_letters a_z_row a_z_refused a_z_numbers : Nat) (z_hasImage : Int32) (z_letterMany : Int32) (z_rowMany : Int32) (z_reading : Int32) (z_seed : Int32) (z_s : Nat → Int32) (z_m : Nat → Int32) (z_refused : Nat → Int32) (p0 : Int32) (p1 : Int32) (p2 : Int32) (r : Int32) (n_z_m : Nat → Int32) (n_z_refused : Nat → Int32) (hf : fX5_two g p0 p1 p2 z_s z_m z_refused = some (r, n_z_m, n_z_refused)) : Met l yX5_two wsX5_two rmX5_two (va_Pc [.ref a_z, .int p0, .int p1, .int p2] (sPc D (tyL cI cJ) [(a_z, .inr (5, [.ref a_z_s, .ref a_z_m, .ref a_z_image, .ref a_z_was, .int z_hasImage, .ref a_z_letters, .ref a_z_row, .ref a_z_refused, .int z_letterMany, .int z_rowMany, .int z_reading, .ref a_z_numbers, .int z_seed])), (a_z_s, .inl (cI, 45, .inl z_s)), (a_z_m, .inl (cI, 45, .inl z_m)), (a_z_refused, .inl (cI, 7, .inl z_refused))] sz)) (qI D (tyL cI cJ) [(a_z, .inr (5, [.ref a_z_s, .ref a_z_m, .ref a_z_image, .ref a_z_was, .int z_hasImage, .ref a_z_letters, .ref a_z_row, .ref a_z_refused, .int z_letterMany, .int z_rowMany, .int z_reading, .ref a_z_numbers, .int z_seed])), (a_z_s, .inl (cI, 45, .inl z_s)), (a_z_m, .inl (cI, 45, .inl z_m)), (a_z_refused, .inl (cI, 7, .inl z_refused))] sz [(a_z, .inr (5, [.ref a_z_s, .ref a_z_m, .ref a_z_image, .ref a_z_was, .int z_hasImage, .ref a_z_letters, .ref a_z_row, .ref a_z_refused, .int z_letterMany, .int z_rowMany, .int z_reading, .ref a_z_numbers, .int z_seed])), (a_z_s, .inl (cI, 45, .inl z_s)), (a_z_m, .inl (cI, 45, .inl n_z_m)), (a_z_refused, .inl (cI, 7, .inl n_z_refused))] r) 0 0 (va_A [(a_z, .inr (5, [.ref a_z_s, .ref a_z_m, .ref a_z_image, .ref a_z_was, .int z_hasImage, .ref a_z_letters, .ref a_z_row, .ref a_z_refused, .int z_letterMany, .int z_rowMany, .int z_reading, .ref a_z_numbers, .int z_seed])), (a_z_s, .inl (cI, 45, .inl z_s)), (a_z_m, .inl (cI, 45, .inl z_m)), (a_z_refused, .inl (cI, 7, .inl z_refused))] sz) := by
  refine st_i (cc := cX5_two) (maxL := 8) (by decide) rfl (Nat.le_of_ble_eq_true rfl) ?_
  intro p e s m args below meth c A Q F hret0 H locs hP hS ls hl
  have F : Cx p s m args c cX5_two 8 wsX5_two RX5 D (tyL cI cJ) A := F
  have hx := F.1.1
  have hb := F.1.2.1
  have hown := F.1.2.2.2.1
  have hts := F.1.2.2.2.2
  have hret : ∀ (pc : Nat) (H : Heap) (locs : List Loc) (ls : Array Slot) (r' : Int32) (m_z_m : Nat → Int32) (m_z_refused : Nat → Int32), some (r', m_z_m, m_z_refused) = some (r, n_z_m, n_z_refused) → narrow .int (.int r') = .int r' → decode cX5_two pc = .ok (.ireturn, 1) → WD D A [(a_z, .inr (5, [.ref a_z_s, .ref a_z_m, .ref a_z_image, .ref a_z_was, .int z_hasImage, .ref a_z_letters, .ref a_z_row, .ref a_z_refused, .int z_letterMany, .int z_rowMany, .int z_reading, .ref a_z_numbers, .int z_seed])), (a_z_s, .inl (cI, 45, .inl z_s)), (a_z_m, .inl (cI, 45, .inl m_z_m)), (a_z_refused, .inl (cI, 7, .inl m_z_refused))] H → va_S A s.heap H locs → W p l e rmX5_two s m args below meth c H locs 0 0 Q (F0 m pc ls [.int r']) := by
    intro pc H locs ls r' m_z_m m_z_refused h hn hd hP hS
    cases h
    exact hret0 pc H locs ls hn hd hP hS
  have L49 : ∀ (x1_L49 : Int32) (x2_L49 : Int32) (x3_L49 : Int32) (z_refused_L49 : Nat → Int32) (n : Nat) (x5_L49 : Int32) (z_m_L49 : Nat → Int32) (x : ((Nat → Int32)) ⊕ (Int32 × (Nat → Int32) × (Nat → Int32))) (H : Heap) (locs : List Loc) (ls : Array Slot), fX5_two_L49 g x1_L49 x2_L49 x3_L49 z_s z_refused_L49 n x5_L49 z_m_L49 = some x → WD D A [(a_z, .inr (5, [.ref a_z_s, .ref a_z_m, .ref a_z_image, .ref a_z_was, .int z_hasImage, .ref a_z_letters, .ref a_z_row, .ref a_z_refused, .int z_letterMany, .int z_rowMany, .int z_reading, .ref a_z_numbers, .int z_seed])), (a_z_s, .inl (cI, 45, .inl z_s)), (a_z_m, .inl (cI, 45, .inl z_m_L49)), (a_z_refused, .inl (cI, 7, .inl z_refused_L49))] H → va_S A s.heap H locs → lv_has ls 8 [(0, .ref a_z), (1, .int x1_L49), (2, .int x2_L49), (3, .int x3_L49), (5, .int x5_L49)] → (∀ (tt0 : Nat → Int32), .inl tt0 = x → (∀ (H : Heap) (locs : List Loc) (ls : Array Slot), WD D A [(a_z, .inr (5, [.ref a_z_s, .ref a_z_m, .ref a_z_image, .ref a_z_was, .int z_hasImage, .ref a_z_letters, .ref a_z_row, .ref a_z_refused, .int z_letterMany, .int z_rowMany, .int z_reading, .ref a_z_numbers, .int z_seed])), (a_z_s, .inl (cI, 45, .inl z_s)), (a_z_m, .inl (cI, 45, .inl tt0)), (a_z_refused, .inl (cI, 7, .inl z_refused_L49))] H → va_S A s.heap H locs → lv_has ls 8 [] → W p l e rmX5_two s m args below meth c H locs 0 0 Q (F0 m 140 ls []))) → (∀ q : Int32 × (Nat → Int32) × (Nat → Int32), .inr q = x → some q = some (r, n_z_m, n_z_refused)) → W p l e rmX5_two s m args below meth c H locs 0 0 Q (F0 m 49 ls []) := by
    intro x1_L49 x2_L49 x3_L49 z_refused_L49 n
    induction n with
    | zero =>
      intro x5_L49 z_m_L49 x H locs ls h
      exact (no_some h).elim
    | succ n ih =>
      intro x5_L49 z_m_L49 x H locs ls h hP hS hl kE kR
      have h : fX5_two_L49_b g x1_L49 x2_L49 x3_L49 z_s z_refused_L49 (fX5_two_L49 g x1_L49 x2_L49 x3_L49 z_s z_refused_L49 n) x5_L49 z_m_L49 = some x := h
      unfold fX5_two_L49_b at h
      refine lv_iload hx hb dX5_two_49 (lv_at hl 4 rfl) ?_
      refine lv_iconst (v := 4) hx hb dX5_two_51 (by decide) ?_
      refine lv_icmp_ge (tgt := 140) hx hb dX5_two_52 (by decide) (fun hc34 => ?_) (fun hc34 => ?_)
      · have h := it_p hc34 h
        cases h
        exact kE _ rfl H locs ls hP hS (lv_sub hl [] rfl)
      · have h := it_n hc34 h
        refine lv_iload hx hb dX5_two_55 (lv_at hl 4 rfl) ?_
        refine lv_iconst (v := 2) hx hb dX5_two_57 (by decide) ?_
        refine lv_idiv hx hb dX5_two_58 (by decide) ?_
        refine lv_istore (lv' := [(6, .int (x5_L49 / 2)), (0, .ref a_z), (1, .int x1_L49), (2, .int x2_L49), (3, .int x3_L49), (5, .int x5_L49)]) hx hb dX5_two_59 hl (by decide) rfl (fun ls hl => ?_)
        refine lv_iload hx hb dX5_two_61 (lv_at hl 5 rfl) ?_
        refine lv_iconst (v := 2) hx hb dX5_two_63 (by decide) ?_
        refine lv_irem hx hb dX5_two_64 (by decide) ?_
        refine lv_istore (lv' := [(7, .int (x5_L49 - x5_L49 / 2 * 2)), (6, .int (x5_L49 / 2)), (0, .ref a_z), (1, .int x1_L49), (2, .int x2_L49), (3, .int x3_L49), (5, .int x5_L49)]) hx hb dX5_two_65 hl (by decide) rfl (fun ls hl => ?_)
        refine lv_aload_n hx hb dX5_two_67 rfl (lv_at hl 2 rfl) ?_
        refine lv_iload_n hx hb dX5_two_68 rfl (lv_at hl 3 rfl) ?_
        refine lv_iload_n hx hb dX5_two_69 rfl (lv_at hl 3 rfl) ?_
        refine lv_iconst (v := 1) hx hb dX5_two_70 (by decide) ?_
        refine lv_iload hx hb dX5_two_71 (lv_at hl 1 rfl) ?_
        refine lv_isub hx hb dX5_two_73 ?_
        refine lv_iload_n hx hb dX5_two_74 rfl (lv_at hl 4 rfl) ?_
        refine lv_iload hx hb dX5_two_75 (lv_at hl 0 rfl) ?_
        refine lv_iload_n hx hb dX5_two_77 rfl (lv_at hl 5 rfl) ?_
        obtain ⟨r35, z_m_36, hk37, h⟩ := bd2_e h
        refine cV_i (rest := []) F (kX5_offBy l D cI cJ H.size g a_z a_z_s a_z_m a_z_image a_z_was a_z_letters a_z_row a_z_refused a_z_numbers z_hasImage z_letterMany z_rowMany z_reading z_seed z_s z_m_L49 x1_L49 x1_L49 (1 - (x5_L49 / 2)) x2_L49 (x5_L49 - x5_L49 / 2 * 2) x3_L49 r35 z_m_36 hk37) (cwV 6 hts gX5_two_X5_offBy rfl rfl rfl eVX5_offBy ⟨Nat.le_of_ble_eq_true rfl, Nat.le_of_ble_eq_true rfl⟩) [0, 1, 2] hP hS (by decide) rfl rfl 0 rfl rfl rfl hl.1 (Nat.le_of_ble_eq_true rfl) ⟨Nat.le_refl _, Nat.le_refl _⟩ rfl dX5_two_78 (fun H locs hP hS => ?_)
        have hP : WD D A [(a_z, .inr (5, [.ref a_z_s, .ref a_z_m, .ref a_z_image, .ref a_z_was, .int z_hasImage, .ref a_z_letters, .ref a_z_row, .ref a_z_refused, .int z_letterMany, .int z_rowMany, .int z_reading, .ref a_z_numbers, .int z_seed])), (a_z_s, .inl (cI, 45, .inl z_s)), (a_z_m, .inl (cI, 45, .inl z_m_36)), (a_z_refused, .inl (cI, 7, .inl z_refused_L49))] H := hP
        refine lv_aload_n hx hb dX5_two_81 rfl (lv_at hl 2 rfl) ?_
        refine lv_iload_n hx hb dX5_two_82 rfl (lv_at hl 3 rfl) ?_
        refine lv_iload_n hx hb dX5_two_83 rfl (lv_at hl 3 rfl) ?_
        refine lv_iload hx hb dX5_two_84 (lv_at hl 1 rfl) ?_
        refine lv_iload_n hx hb dX5_two_86 rfl (lv_at hl 4 rfl) ?_
        refine lv_iload hx hb dX5_two_87 (lv_at hl 0 rfl) ?_
        refine lv_iload_n hx hb dX5_two_89 rfl (lv_at hl 5 rfl) ?_
        obtain ⟨r38, z_m_39, hk40, h⟩ := bd2_e h
        refine cV_i (rest := [.int r35]) F (kX5_offBy l D cI cJ H.size g a_z a_z_s a_z_m a_z_image a_z_was a_z_letters a_z_row a_z_refused a_z_numbers z_hasImage z_letterMany z_rowMany z_reading z_seed z_s z_m_36 x1_L49 x1_L49 (x5_L49 / 2) x2_L49 (x5_L49 - x5_L49 / 2 * 2) x3_L49 r38 z_m_39 hk40) (cwV 6 hts gX5_two_X5_offBy rfl rfl rfl eVX5_offBy ⟨Nat.le_of_ble_eq_true rfl, Nat.le_of_ble_eq_true rfl⟩) [0, 1, 2] hP hS (by decide) rfl rfl 0 rfl rfl rfl hl.1 (Nat.le_of_ble_eq_true rfl) ⟨Nat.le_refl _, Nat.le_refl _⟩ rfl dX5_two_90 (fun H locs hP hS => ?_)
        have hP : WD D A [(a_z, .inr (5, [.ref a_z_s, .ref a_z_m, .ref a_z_image, .ref a_z_was, .int z_hasImage, .ref a_z_letters, .ref a_z_row, .ref a_z_refused, .int z_letterMany, .int z_rowMany, .int z_reading, .ref a_z_numbers, .int z_seed])), (a_z_s, .inl (cI, 45, .inl z_s)), (a_z_m, .inl (cI, 45, .inl z_m_39)), (a_z_refused, .inl (cI, 7, .inl z_refused_L49))] H := hP
        refine lv_icmp_lt (tgt := 134) hx hb dX5_two_93 (by decide) (fun hc41 => ?_) (fun hc41 => ?_)
        · have h := it_p hc41 h
          refine lv_iinc (v := x5_L49 + 1) (lv' := [(5, .int (x5_L49 + 1)), (7, .int (x5_L49 - x5_L49 / 2 * 2)), (6, .int (x5_L49 / 2)), (0, .ref a_z), (1, .int x1_L49), (2, .int x2_L49), (3, .int x3_L49)]) hx hb dX5_two_134 hl (k := 6) rfl rfl (by decide) rfl (fun ls hl => ?_)
          refine lv_goto (tgt := 49) hx hb dX5_two_137 (by decide) ?_
          exact ih (x5_L49 + 1) z_m_39 x H locs ls h hP hS (lv_sub hl [3, 4, 5, 6, 0] rfl) kE kR
        · have h := it_n hc41 h
          refine lv_aload_n hx hb dX5_two_96 rfl (lv_at hl 2 rfl) ?_
          refine lv_iload_n hx hb dX5_two_97 rfl (lv_at hl 4 rfl) ?_
          refine lv_iload_n hx hb dX5_two_98 rfl (lv_at hl 3 rfl) ?_
          refine lv_iload hx hb dX5_two_99 (lv_at hl 1 rfl) ?_
          refine lv_iload_n hx hb dX5_two_101 rfl (lv_at hl 4 rfl) ?_
          refine lv_iconst (v := 1) hx hb dX5_two_102 (by decide) ?_
          refine lv_iload hx hb dX5_two_103 (lv_at hl 0 rfl) ?_
          refine lv_isub hx hb dX5_two_105 ?_
          refine lv_iload_n hx hb dX5_two_106 rfl (lv_at hl 5 rfl) ?_
          obtain ⟨r42, z_m_43, hk44, h⟩ := bd2_e h
          refine cV_i (rest := []) F (kX5_offBy l D cI cJ H.size g a_z a_z_s a_z_m a_z_image a_z_was a_z_letters a_z_row a_z_refused a_z_numbers z_hasImage z_letterMany z_rowMany z_reading z_seed z_s z_m_39 x2_L49 x1_L49 (x5_L49 / 2) x2_L49 (1 - (x5_L49 - x5_L49 / 2 * 2)) x3_L49 r42 z_m_43 hk44) (cwV 6 hts gX5_two_X5_offBy rfl rfl rfl eVX5_offBy ⟨Nat.le_of_ble_eq_true rfl, Nat.le_of_ble_eq_true rfl⟩) [0, 1, 2] hP hS (by decide) rfl rfl 0 rfl rfl rfl hl.1 (Nat.le_of_ble_eq_true rfl) ⟨Nat.le_refl _, Nat.le_refl _⟩ rfl dX5_two_107 (fun H locs hP hS => ?_)
          have hP : WD D A [(a_z, .inr (5, [.ref a_z_s, .ref a_z_m, .ref a_z_image, .ref a_z_was, .int z_hasImage, .ref a_z_letters, .ref a_z_row, .ref a_z_refused, .int z_letterMany, .int z_rowMany, .int z_reading, .ref a_z_numbers, .int z_seed])), (a_z_s, .inl (cI, 45, .inl z_s)), (a_z_m, .inl (cI, 45, .inl z_m_43)), (a_z_refused, .inl (cI, 7, .inl z_refused_L49))] H := hP
          refine lv_aload_n hx hb dX5_two_110 rfl (lv_at hl 2 rfl) ?_
          refine lv_iload_n hx hb dX5_two_111 rfl (lv_at hl 4 rfl) ?_
          refine lv_iload_n hx hb dX5_two_112 rfl (lv_at hl 3 rfl) ?_
          refine lv_iload hx hb dX5_two_113 (lv_at hl 1 rfl) ?_
          refine lv_iload_n hx hb dX5_two_115 rfl (lv_at hl 4 rfl) ?_
          refine lv_iload hx hb dX5_two_116 (lv_at hl 0 rfl) ?_
          refine lv_iload_n hx hb dX5_two_118 rfl (lv_at hl 5 rfl) ?_
          obtain ⟨r45, z_m_46, hk47, h⟩ := bd2_e h
          refine cV_i (rest := [.int r42]) F (kX5_offBy l D cI cJ H.size g a_z a_z_s a_z_m a_z_image a_z_was a_z_letters a_z_row a_z_refused a_z_numbers z_hasImage z_letterMany z_rowMany z_reading z_seed z_s z_m_43 x2_L49 x1_L49 (x5_L49 / 2) x2_L49 (x5_L49 - x5_L49 / 2 * 2) x3_L49 r45 z_m_46 hk47) (cwV 6 hts gX5_two_X5_offBy rfl rfl rfl eVX5_offBy ⟨Nat.le_of_ble_eq_true rfl, Nat.le_of_ble_eq_true rfl⟩) [0, 1, 2] hP hS (by decide) rfl rfl 0 rfl rfl rfl hl.1 (Nat.le_of_ble_eq_true rfl) ⟨Nat.le_refl _, Nat.le_refl _⟩ rfl dX5_two_119 (fun H locs hP hS => ?_)
          have hP : WD D A [(a_z, .inr (5, [.ref a_z_s, .ref a_z_m, .ref a_z_image, .ref a_z_was, .int z_hasImage, .ref a_z_letters, .ref a_z_row, .ref a_z_refused, .int z_letterMany, .int z_rowMany, .int z_reading, .ref a_z_numbers, .int z_seed])), (a_z_s, .inl (cI, 45, .inl z_s)), (a_z_m, .inl (cI, 45, .inl z_m_46)), (a_z_refused, .inl (cI, 7, .inl z_refused_L49))] H := hP
          refine lv_icmp_lt (tgt := 134) hx hb dX5_two_122 (by decide) (fun hc48 => ?_) (fun hc48 => ?_)
          · have h := it_p hc48 h
            refine lv_iinc (v := x5_L49 + 1) (lv' := [(5, .int (x5_L49 + 1)), (7, .int (x5_L49 - x5_L49 / 2 * 2)), (6, .int (x5_L49 / 2)), (0, .ref a_z), (1, .int x1_L49), (2, .int x2_L49), (3, .int x3_L49)]) hx hb dX5_two_134 hl (k := 6) rfl rfl (by decide) rfl (fun ls hl => ?_)
            refine lv_goto (tgt := 49) hx hb dX5_two_137 (by decide) ?_
            exact ih (x5_L49 + 1) z_m_46 x H locs ls h hP hS (lv_sub hl [3, 4, 5, 6, 0] rfl) kE kR
          · have h := it_n hc48 h
            refine lv_bipush (v := 10) hx hb dX5_two_125 (by decide) ?_
            refine lv_iload hx hb dX5_two_127 (lv_at hl 1 rfl) ?_
            refine lv_imul hx hb dX5_two_129 ?_
            refine lv_iload hx hb dX5_two_130 (lv_at hl 0 rfl) ?_
            refine lv_iadd hx hb dX5_two_132 ?_
            have h := kR _ (Option.some.inj h)
            exact hret 133 H locs ls ((10 * (x5_L49 / 2)) + (x5_L49 - x5_L49 / 2 * 2)) z_m_46 z_refused_L49 h rfl dX5_two_133 hP hS
  have hl : lv_has ls 8 [(0, .ref a_z), (1, .int p0), (2, .int p1), (3, .int p2)] := hl
  have h := hf
  unfold fX5_two at h
  refine lv_aload_n hx hb dX5_two_0 rfl (lv_at hl 0 rfl) ?_
  refine lv_iload_n hx hb dX5_two_1 rfl (lv_at hl 1 rfl) ?_
  obtain ⟨r30, hk31, h⟩ := bd1_e h
  refine cV_i (rest := []) F (kX5_isHand l D cI cJ H.size g a_z a_z_s a_z_m a_z_image a_z_was a_z_letters a_z_row a_z_refused a_z_numbers z_hasImage z_letterMany z_rowMany z_reading z_seed z_s p0 r30 hk31) (cwV 1 hts gX5_two_X5_isHand rfl rfl rfl eVX5_isHand ⟨Nat.le_of_ble_eq_true rfl, Nat.le_of_ble_eq_true rfl⟩) [0, 1] hP hS (by decide) rfl rfl 0 rfl rfl rfl hl.1 (Nat.le_of_ble_eq_true rfl) ⟨Nat.le_refl _, Nat.le_refl _⟩ rfl dX5_two_2 (fun H locs hP hS => ?_)
  have hP : WD D A [(a_z, .inr (5, [.ref a_z_s, .ref a_z_m, .ref a_z_image, .ref a_z_was, .int z_hasImage, .ref a_z_letters, .ref a_z_row, .ref a_z_refused, .int z_letterMany, .int z_rowMany, .int z_reading, .ref a_z_numbers, .int z_seed])), (a_z_s, .inl (cI, 45, .inl z_s)), (a_z_m, .inl (cI, 45, .inl z_m)), (a_z_refused, .inl (cI, 7, .inl z_refused))] H := hP
  refine lv_if_eq (tgt := 31) hx hb dX5_two_5 (by decide) (fun hc32 => ?_) (fun hc32 => ?_)
  · have h := it_p hc32 h
    refine lv_iconst (v := (-1)) hx hb dX5_two_31 (by decide) ?_
    refine lv_istore (lv' := [(4, .int (-1)), (0, .ref a_z), (1, .int p0), (2, .int p1), (3, .int p2)]) hx hb dX5_two_32 hl (by decide) rfl (fun ls hl => ?_)
    refine lv_iload hx hb dX5_two_34 (lv_at hl 0 rfl) ?_
    refine lv_if_eq (tgt := 46) hx hb dX5_two_36 (by decide) (fun hc33 => ?_) (fun hc33 => ?_)
    · have h := it_p hc33 h
      refine lv_iconst (v := 0) hx hb dX5_two_46 (by decide) ?_
      refine lv_istore (lv' := [(5, .int 0), (4, .int (-1)), (0, .ref a_z), (1, .int p0), (2, .int p1), (3, .int p2)]) hx hb dX5_two_47 hl (by decide) rfl (fun ls hl => ?_)
      obtain ⟨x51, hk50, x51a, x51b⟩ := bs1_e h
      refine L49 p0 p1 p2 z_refused g 0 z_m x51 H locs ls hk50 hP hS (lv_sub hl [2, 3, 4, 5, 0] rfl) (fun t49 he52 H locs ls hP hS hl => ?_) (fun q he52 => (x51b q he52.symm))
      have h := x51a t49 he52.symm
      refine lv_bipush (v := (-9)) hx hb dX5_two_140 (by decide) ?_
      exact hret 142 H locs ls (-9) t49 z_refused h rfl dX5_two_142 hP hS
    · have h := it_n hc33 h
      refine lv_aload_n hx hb dX5_two_39 rfl (lv_at hl 1 rfl) ?_
      refine lv_iload hx hb dX5_two_40 (lv_at hl 0 rfl) ?_
      obtain ⟨r53, z_refused_54, hk55, h⟩ := bd2_e h
      refine cV_i (rest := []) F (kX5_no l D cI cJ H.size g a_z a_z_s a_z_m a_z_image a_z_was a_z_letters a_z_row a_z_refused a_z_numbers z_hasImage z_letterMany z_rowMany z_reading z_seed z_refused (-1) r53 z_refused_54 hk55) (cwV 1 hts gX5_two_X5_no rfl rfl rfl eVX5_no ⟨Nat.le_of_ble_eq_true rfl, Nat.le_of_ble_eq_true rfl⟩) [0, 3] hP hS (by decide) rfl rfl 0 rfl rfl rfl hl.1 (Nat.le_of_ble_eq_true rfl) ⟨Nat.le_refl _, Nat.le_refl _⟩ rfl dX5_two_42 (fun H locs hP hS => ?_)
      have hP : WD D A [(a_z, .inr (5, [.ref a_z_s, .ref a_z_m, .ref a_z_image, .ref a_z_was, .int z_hasImage, .ref a_z_letters, .ref a_z_row, .ref a_z_refused, .int z_letterMany, .int z_rowMany, .int z_reading, .ref a_z_numbers, .int z_seed])), (a_z_s, .inl (cI, 45, .inl z_s)), (a_z_m, .inl (cI, 45, .inl z_m)), (a_z_refused, .inl (cI, 7, .inl z_refused_54))] H := hP
      exact hret 45 H locs ls r53 z_m z_refused_54 h rfl dX5_two_45 hP hS
  · have h := it_n hc32 h
    refine lv_aload_n hx hb dX5_two_8 rfl (lv_at hl 0 rfl) ?_
    refine lv_iload_n hx hb dX5_two_9 rfl (lv_at hl 2 rfl) ?_
    obtain ⟨r56, hk57, h⟩ := bd1_e h
    refine cV_i (rest := []) F (kX5_isHand l D cI cJ H.size g a_z a_z_s a_z_m a_z_image a_z_was a_z_letters a_z_row a_z_refused a_z_numbers z_hasImage z_letterMany z_rowMany z_reading z_seed z_s p1 r56 hk57) (cwV 1 hts gX5_two_X5_isHand rfl rfl rfl eVX5_isHand ⟨Nat.le_of_ble_eq_true rfl, Nat.le_of_ble_eq_true rfl⟩) [0, 1] hP hS (by decide) rfl rfl 0 rfl rfl rfl hl.1 (Nat.le_of_ble_eq_true rfl) ⟨Nat.le_refl _, Nat.le_refl _⟩ rfl dX5_two_10 (fun H locs hP hS => ?_)
    have hP : WD D A [(a_z, .inr (5, [.ref a_z_s, .ref a_z_m, .ref a_z_image, .ref a_z_was, .int z_hasImage, .ref a_z_letters, .ref a_z_row, .ref a_z_refused, .int z_letterMany, .int z_rowMany, .int z_reading, .ref a_z_numbers, .int z_seed])), (a_z_s, .inl (cI, 45, .inl z_s)), (a_z_m, .inl (cI, 45, .inl z_m)), (a_z_refused, .inl (cI, 7, .inl z_refused))] H := hP
    refine lv_if_eq (tgt := 31) hx hb dX5_two_13 (by decide) (fun hc58 => ?_) (fun hc58 => ?_)
    · have h := it_p hc58 h
      refine lv_iconst (v := (-1)) hx hb dX5_two_31 (by decide) ?_
      refine lv_istore (lv' := [(4, .int (-1)), (0, .ref a_z), (1, .int p0), (2, .int p1), (3, .int p2)]) hx hb dX5_two_32 hl (by decide) rfl (fun ls hl => ?_)
      refine lv_iload hx hb dX5_two_34 (lv_at hl 0 rfl) ?_
      refine lv_if_eq (tgt := 46) hx hb dX5_two_36 (by decide) (fun hc59 => ?_) (fun hc59 => ?_)
      · have h := it_p hc59 h
        refine lv_iconst (v := 0) hx hb dX5_two_46 (by decide) ?_
        refine lv_istore (lv' := [(5, .int 0), (4, .int (-1)), (0, .ref a_z), (1, .int p0), (2, .int p1), (3, .int p2)]) hx hb dX5_two_47 hl (by decide) rfl (fun ls hl => ?_)
        obtain ⟨x62, hk61, x62a, x62b⟩ := bs1_e h
        refine L49 p0 p1 p2 z_refused g 0 z_m x62 H locs ls hk61 hP hS (lv_sub hl [2, 3, 4, 5, 0] rfl) (fun t60 he63 H locs ls hP hS hl => ?_) (fun q he63 => (x62b q he63.symm))
        have h := x62a t60 he63.symm
        refine lv_bipush (v := (-9)) hx hb dX5_two_140 (by decide) ?_
        exact hret 142 H locs ls (-9) t60 z_refused h rfl dX5_two_142 hP hS
      · have h := it_n hc59 h
        refine lv_aload_n hx hb dX5_two_39 rfl (lv_at hl 1 rfl) ?_
        refine lv_iload hx hb dX5_two_40 (lv_at hl 0 rfl) ?_
        obtain ⟨r64, z_refused_65, hk66, h⟩ := bd2_e h
        refine cV_i (rest := []) F (kX5_no l D cI cJ H.size g a_z a_z_s a_z_m a_z_image a_z_was a_z_letters a_z_row a_z_refused a_z_numbers z_hasImage z_letterMany z_rowMany z_reading z_seed z_refused (-1) r64 z_refused_65 hk66) (cwV 1 hts gX5_two_X5_no rfl rfl rfl eVX5_no ⟨Nat.le_of_ble_eq_true rfl, Nat.le_of_ble_eq_true rfl⟩) [0, 3] hP hS (by decide) rfl rfl 0 rfl rfl rfl hl.1 (Nat.le_of_ble_eq_true rfl) ⟨Nat.le_refl _, Nat.le_refl _⟩ rfl dX5_two_42 (fun H locs hP hS => ?_)
        have hP : WD D A [(a_z, .inr (5, [.ref a_z_s, .ref a_z_m, .ref a_z_image, .ref a_z_was, .int z_hasImage, .ref a_z_letters, .ref a_z_row, .ref a_z_refused, .int z_letterMany, .int z_rowMany, .int z_reading, .ref a_z_numbers, .int z_seed])), (a_z_s, .inl (cI, 45, .inl z_s)), (a_z_m, .inl (cI, 45, .inl z_m)), (a_z_refused, .inl (cI, 7, .inl z_refused_65))] H := hP
        exact hret 45 H locs ls r64 z_m z_refused_65 h rfl dX5_two_45 hP hS
    · have h := it_n hc58 h
      refine lv_iload_n hx hb dX5_two_16 rfl (lv_at hl 1 rfl) ?_
      refine lv_iload_n hx hb dX5_two_17 rfl (lv_at hl 2 rfl) ?_
      refine lv_icmp_eq (tgt := 31) hx hb dX5_two_18 (by decide) (fun hc67 => ?_) (fun hc67 => ?_)
      · have h := it_p hc67 h
        refine lv_iconst (v := (-1)) hx hb dX5_two_31 (by decide) ?_
        refine lv_istore (lv' := [(4, .int (-1)), (0, .ref a_z), (1, .int p0), (2, .int p1), (3, .int p2)]) hx hb dX5_two_32 hl (by decide) rfl (fun ls hl => ?_)
        refine lv_iload hx hb dX5_two_34 (lv_at hl 0 rfl) ?_
        refine lv_if_eq (tgt := 46) hx hb dX5_two_36 (by decide) (fun hc68 => ?_) (fun hc68 => ?_)
        · have h := it_p hc68 h
          refine lv_iconst (v := 0) hx hb dX5_two_46 (by decide) ?_
          refine lv_istore (lv' := [(5, .int 0), (4, .int (-1)), (0, .ref a_z), (1, .int p0), (2, .int p1), (3, .int p2)]) hx hb dX5_two_47 hl (by decide) rfl (fun ls hl => ?_)
          obtain ⟨x71, hk70, x71a, x71b⟩ := bs1_e h
          refine L49 p0 p1 p2 z_refused g 0 z_m x71 H locs ls hk70 hP hS (lv_sub hl [2, 3, 4, 5, 0] rfl) (fun t69 he72 H locs ls hP hS hl => ?_) (fun q he72 => (x71b q he72.symm))
          have h := x71a t69 he72.symm
          refine lv_bipush (v := (-9)) hx hb dX5_two_140 (by decide) ?_
          exact hret 142 H locs ls (-9) t69 z_refused h rfl dX5_two_142 hP hS
        · have h := it_n hc68 h
          refine lv_aload_n hx hb dX5_two_39 rfl (lv_at hl 1 rfl) ?_
          refine lv_iload hx hb dX5_two_40 (lv_at hl 0 rfl) ?_
          obtain ⟨r73, z_refused_74, hk75, h⟩ := bd2_e h
          refine cV_i (rest := []) F (kX5_no l D cI cJ H.size g a_z a_z_s a_z_m a_z_image a_z_was a_z_letters a_z_row a_z_refused a_z_numbers z_hasImage z_letterMany z_rowMany z_reading z_seed z_refused (-1) r73 z_refused_74 hk75) (cwV 1 hts gX5_two_X5_no rfl rfl rfl eVX5_no ⟨Nat.le_of_ble_eq_true rfl, Nat.le_of_ble_eq_true rfl⟩) [0, 3] hP hS (by decide) rfl rfl 0 rfl rfl rfl hl.1 (Nat.le_of_ble_eq_true rfl) ⟨Nat.le_refl _, Nat.le_refl _⟩ rfl dX5_two_42 (fun H locs hP hS => ?_)
          have hP : WD D A [(a_z, .inr (5, [.ref a_z_s, .ref a_z_m, .ref a_z_image, .ref a_z_was, .int z_hasImage, .ref a_z_letters, .ref a_z_row, .ref a_z_refused, .int z_letterMany, .int z_rowMany, .int z_reading, .ref a_z_numbers, .int z_seed])), (a_z_s, .inl (cI, 45, .inl z_s)), (a_z_m, .inl (cI, 45, .inl z_m)), (a_z_refused, .inl (cI, 7, .inl z_refused_74))] H := hP
          exact hret 45 H locs ls r73 z_m z_refused_74 h rfl dX5_two_45 hP hS
      · have h := it_n hc67 h
        refine lv_iload_n hx hb dX5_two_21 rfl (lv_at hl 3 rfl) ?_
        refine lv_iconst (v := 0) hx hb dX5_two_22 (by decide) ?_
        refine lv_bipush (v := 30) hx hb dX5_two_23 (by decide) ?_
        obtain ⟨r76, hk77, h⟩ := bd1_e h
        refine cS_i (rest := []) F (kX5_wrongBy l D cI cJ H.size g p2 0 30 r76 hk77) (va_cwS 3 hts gX5_two_X5_wrongBy rfl rfl rfl eSX5_wrongBy ⟨Nat.le_of_ble_eq_true rfl, Nat.le_of_ble_eq_true rfl⟩) [] hP hS (by decide) rfl rfl rfl hl.1 (Nat.le_of_ble_eq_true rfl) ⟨Nat.le_refl _, Nat.le_refl _⟩ rfl dX5_two_25 (fun H locs hP hS => ?_)
        have hP : WD D A [(a_z, .inr (5, [.ref a_z_s, .ref a_z_m, .ref a_z_image, .ref a_z_was, .int z_hasImage, .ref a_z_letters, .ref a_z_row, .ref a_z_refused, .int z_letterMany, .int z_rowMany, .int z_reading, .ref a_z_numbers, .int z_seed])), (a_z_s, .inl (cI, 45, .inl z_s)), (a_z_m, .inl (cI, 45, .inl z_m)), (a_z_refused, .inl (cI, 7, .inl z_refused))] H := hP
        refine lv_goto (tgt := 32) hx hb dX5_two_28 (by decide) ?_
        refine lv_istore (lv' := [(4, .int r76), (0, .ref a_z), (1, .int p0), (2, .int p1), (3, .int p2)]) hx hb dX5_two_32 hl (by decide) rfl (fun ls hl => ?_)
        refine lv_iload hx hb dX5_two_34 (lv_at hl 0 rfl) ?_
        refine lv_if_eq (tgt := 46) hx hb dX5_two_36 (by decide) (fun hc78 => ?_) (fun hc78 => ?_)
        · have h := it_p hc78 h
          refine lv_iconst (v := 0) hx hb dX5_two_46 (by decide) ?_
          refine lv_istore (lv' := [(5, .int 0), (4, .int r76), (0, .ref a_z), (1, .int p0), (2, .int p1), (3, .int p2)]) hx hb dX5_two_47 hl (by decide) rfl (fun ls hl => ?_)
          obtain ⟨x81, hk80, x81a, x81b⟩ := bs1_e h
          refine L49 p0 p1 p2 z_refused g 0 z_m x81 H locs ls hk80 hP hS (lv_sub hl [2, 3, 4, 5, 0] rfl) (fun t79 he82 H locs ls hP hS hl => ?_) (fun q he82 => (x81b q he82.symm))
          have h := x81a t79 he82.symm
          refine lv_bipush (v := (-9)) hx hb dX5_two_140 (by decide) ?_
          exact hret 142 H locs ls (-9) t79 z_refused h rfl dX5_two_142 hP hS
        · have h := it_n hc78 h
          refine lv_aload_n hx hb dX5_two_39 rfl (lv_at hl 1 rfl) ?_
          refine lv_iload hx hb dX5_two_40 (lv_at hl 0 rfl) ?_
          obtain ⟨r83, z_refused_84, hk85, h⟩ := bd2_e h
          refine cV_i (rest := []) F (kX5_no l D cI cJ H.size g a_z a_z_s a_z_m a_z_image a_z_was a_z_letters a_z_row a_z_refused a_z_numbers z_hasImage z_letterMany z_rowMany z_reading z_seed z_refused r76 r83 z_refused_84 hk85) (cwV 1 hts gX5_two_X5_no rfl rfl rfl eVX5_no ⟨Nat.le_of_ble_eq_true rfl, Nat.le_of_ble_eq_true rfl⟩) [0, 3] hP hS (by decide) rfl rfl 0 rfl rfl rfl hl.1 (Nat.le_of_ble_eq_true rfl) ⟨Nat.le_refl _, Nat.le_refl _⟩ rfl dX5_two_42 (fun H locs hP hS => ?_)
          have hP : WD D A [(a_z, .inr (5, [.ref a_z_s, .ref a_z_m, .ref a_z_image, .ref a_z_was, .int z_hasImage, .ref a_z_letters, .ref a_z_row, .ref a_z_refused, .int z_letterMany, .int z_rowMany, .int z_reading, .ref a_z_numbers, .int z_seed])), (a_z_s, .inl (cI, 45, .inl z_s)), (a_z_m, .inl (cI, 45, .inl z_m)), (a_z_refused, .inl (cI, 7, .inl z_refused_84))] H := hP
          exact hret 45 H locs ls r83 z_m z_refused_84 h rfl dX5_two_45 hP hS
theorem eSX5_gcd : yX5_gcd.cls ≠ "java/lang/invoke/MethodHandle" ∧ yX5_gcd.cls ≠ "java/lang/invoke/VarHandle" ∧ (parseMethodDescriptor yX5_gcd.desc).map (fun d => d.parameters.length) = some 2 := by decide +kernel
theorem eVX5_gcd : yX5_gcd.cls = RX5 ∧ yX5_gcd.cls ≠ "java/lang/invoke/MethodHandle" ∧ yX5_gcd.cls ≠ "java/lang/invoke/VarHandle" ∧ (parseMethodDescriptor yX5_gcd.desc).map (fun d => d.parameters.length) = some 2 := ⟨rfl, eSX5_gcd⟩
abbrev rmX5_gcd : Room := { frames := 0, cells := 0, slots := 0, locals := 0 }
def fX5_gcd_L6_b (g : Nat) (self : Int64 → Int64 → Option (Int64)) (x4_L6 : Int64) (x6_L6 : Int64) : Option (Int64) := if (lg_cmp x6_L6 0) = 0 then (some x4_L6) else (gd (¬ x6_L6 = 0) (self x6_L6 (x4_L6 - x4_L6 / x6_L6 * x6_L6)))
def fX5_gcd_L6 (g : Nat) (n : Nat) : Int64 → Int64 → Option (Int64) := lp (fX5_gcd_L6_b g) (fun _ _ => none) n
def fX5_gcd (g : Nat) (p0 : Int64) (p1 : Int64) : Option (Int64) := bd1 (fX5_gcd_L6 g g p0 p1) fun t4 => (some t4)
set_option maxHeartbeats 4000000 in
set_option maxRecDepth 100000 in
theorem kX5_gcd (l : Launch) (D : va_G) (cI cJ : ClassId) (sz g : Nat) (p0 : Int64) (p1 : Int64) (r : Int64) (hf : fX5_gcd g p0 p1 = some r) : Met l yX5_gcd wsX5_gcd rmX5_gcd (va_Pc [.long p0, .long p1] (sPc D (tyL cI cJ) [] sz)) (qL D (tyL cI cJ) [] sz [] r) 0 0 (va_A [] sz) := by
  refine st_l (cc := cX5_gcd) (maxL := 10) (by decide) rfl (Nat.le_of_ble_eq_true rfl) ?_
  intro p e s m args below meth c A Q F hret0 H locs hP hS ls hl
  have F : Cx p s m args c cX5_gcd 10 wsX5_gcd RX5 D (tyL cI cJ) A := F
  have hx := F.1.1
  have hb := F.1.2.1
  have hown := F.1.2.2.2.1
  have hts := F.1.2.2.2.2
  have hret : ∀ (pc : Nat) (H : Heap) (locs : List Loc) (ls : Array Slot) (r' : Int64), some r' = some r → decode cX5_gcd pc = .ok (.lreturn, 1) → WD D A [] H → va_S A s.heap H locs → W p l e rmX5_gcd s m args below meth c H locs 0 0 Q (F0 m pc ls [.long r']) := by
    intro pc H locs ls r' h hd hP hS
    cases h
    exact hret0 pc H locs ls hd hP hS
  have L6 : ∀ (n : Nat) (x4_L6 : Int64) (x6_L6 : Int64) (tt0 : Int64) (H : Heap) (locs : List Loc) (ls : Array Slot), fX5_gcd_L6 g n x4_L6 x6_L6 = some tt0 → WD D A [] H → va_S A s.heap H locs → lv_has ls 10 [(4, .long x4_L6), (6, .long x6_L6)] → (∀ (H : Heap) (locs : List Loc) (ls : Array Slot), WD D A [] H → va_S A s.heap H locs → lv_has ls 10 [(4, .long tt0)] → W p l e rmX5_gcd s m args below meth c H locs 0 0 Q (F0 m 31 ls [])) → W p l e rmX5_gcd s m args below meth c H locs 0 0 Q (F0 m 6 ls []) := by
    intro n
    induction n with
    | zero =>
      intro x4_L6 x6_L6 tt0 H locs ls h
      exact (no_some h).elim
    | succ n ih =>
      intro x4_L6 x6_L6 tt0 H locs ls h hP hS hl kE
      have h : fX5_gcd_L6_b g (fX5_gcd_L6 g n) x4_L6 x6_L6 = some tt0 := h
      unfold fX5_gcd_L6_b at h
      refine lv_lload hx hb dX5_gcd_6 (lv_at hl 1 rfl) ?_
      refine lv_lconst (v := 0) hx hb dX5_gcd_8 (by decide) ?_
      refine W.lcmp hx hb dX5_gcd_9 ?_
      refine lv_if_eq (tgt := 31) hx hb dX5_gcd_10 (by decide) (fun hc2 => ?_) (fun hc2 => ?_)
      · have h := it_p hc2 h
        cases h
        exact kE H locs ls hP hS (lv_sub hl [0] rfl)
      · have h := it_n hc2 h
        refine lv_lload hx hb dX5_gcd_13 (lv_at hl 0 rfl) ?_
        refine lv_lload hx hb dX5_gcd_15 (lv_at hl 1 rfl) ?_
        obtain ⟨hg3, h⟩ := gd_e h
        refine lv_lrem hx hb dX5_gcd_17 hg3 ?_
        refine lv_lstore (lv' := [(8, .long (x4_L6 - x4_L6 / x6_L6 * x6_L6)), (4, .long x4_L6), (6, .long x6_L6)]) hx hb dX5_gcd_18 hl (by decide) rfl (fun ls hl => ?_)
        refine lv_lload hx hb dX5_gcd_20 (lv_at hl 2 rfl) ?_
        refine lv_lstore (lv' := [(4, .long x6_L6), (8, .long (x4_L6 - x4_L6 / x6_L6 * x6_L6)), (6, .long x6_L6)]) hx hb dX5_gcd_22 hl (by decide) rfl (fun ls hl => ?_)
        refine lv_lload hx hb dX5_gcd_24 (lv_at hl 1 rfl) ?_
        refine lv_lstore (lv' := [(6, .long (x4_L6 - x4_L6 / x6_L6 * x6_L6)), (4, .long x6_L6), (8, .long (x4_L6 - x4_L6 / x6_L6 * x6_L6))]) hx hb dX5_gcd_26 hl (by decide) rfl (fun ls hl => ?_)
        refine lv_goto (tgt := 6) hx hb dX5_gcd_28 (by decide) ?_
        exact ih x6_L6 (x4_L6 - x4_L6 / x6_L6 * x6_L6) tt0 H locs ls h hP hS (lv_sub hl [1, 0] rfl) kE
  have hl : lv_has ls 10 [(0, .long p0), (2, .long p1)] := hl
  have h := hf
  unfold fX5_gcd at h
  refine lv_lload_n hx hb dX5_gcd_0 rfl (lv_at hl 0 rfl) ?_
  refine lv_lstore (lv' := [(4, .long p0), (0, .long p0), (2, .long p1)]) hx hb dX5_gcd_1 hl (by decide) rfl (fun ls hl => ?_)
  refine lv_lload_n hx hb dX5_gcd_3 rfl (lv_at hl 2 rfl) ?_
  refine lv_lstore (lv' := [(6, .long p1), (4, .long p0), (0, .long p0), (2, .long p1)]) hx hb dX5_gcd_4 hl (by decide) rfl (fun ls hl => ?_)
  obtain ⟨t4, hk5, h⟩ := bd1_e h
  refine L6 g p0 p1 t4 H locs ls hk5 hP hS (lv_sub hl [1, 0] rfl) (fun H locs ls hP hS hl => ?_)
  refine lv_lload hx hb dX5_gcd_31 (lv_at hl 0 rfl) ?_
  exact hret 33 H locs ls t4 h dX5_gcd_33 hP hS
theorem eSX5_partOf : yX5_partOf.cls ≠ "java/lang/invoke/MethodHandle" ∧ yX5_partOf.cls ≠ "java/lang/invoke/VarHandle" ∧ (parseMethodDescriptor yX5_partOf.desc).map (fun d => d.parameters.length) = some 3 := by decide +kernel
theorem eVX5_partOf : yX5_partOf.cls = RX5 ∧ yX5_partOf.cls ≠ "java/lang/invoke/MethodHandle" ∧ yX5_partOf.cls ≠ "java/lang/invoke/VarHandle" ∧ (parseMethodDescriptor yX5_partOf.desc).map (fun d => d.parameters.length) = some 3 := ⟨rfl, eSX5_partOf⟩
abbrev rmX5_partOf : Room := { frames := 1, cells := 0, slots := 0, locals := 29 }
def fX5_partOf (g : Nat) (p0 : Int64) (p1 : Int64) (p2 : Int32) : Option (Int64) := if (lg_cmp p0 0) = 0 then (some p2.toInt64) else (if p2 = 0 then (bd1 (fX5_gcd g p0 p1) fun r14 => (gd (¬ r14 = 0) (some (p0 / r14)))) else (bd1 (fX5_gcd g p0 p1) fun r11 => (gd (¬ r11 = 0) (some (p1 / r11)))))
set_option maxHeartbeats 4000000 in
set_option maxRecDepth 100000 in
theorem kX5_partOf (l : Launch) (D : va_G) (cI cJ : ClassId) (sz g : Nat) (p0 : Int64) (p1 : Int64) (p2 : Int32) (r : Int64) (hf : fX5_partOf g p0 p1 p2 = some r) : Met l yX5_partOf wsX5_partOf rmX5_partOf (va_Pc [.long p0, .long p1, .int p2] (sPc D (tyL cI cJ) [] sz)) (qL D (tyL cI cJ) [] sz [] r) 0 0 (va_A [] sz) := by
  refine st_l (cc := cX5_partOf) (maxL := 5) (by decide) rfl (Nat.le_of_ble_eq_true rfl) ?_
  intro p e s m args below meth c A Q F hret0 H locs hP hS ls hl
  have F : Cx p s m args c cX5_partOf 5 wsX5_partOf RX5 D (tyL cI cJ) A := F
  have hx := F.1.1
  have hb := F.1.2.1
  have hown := F.1.2.2.2.1
  have hts := F.1.2.2.2.2
  have hret : ∀ (pc : Nat) (H : Heap) (locs : List Loc) (ls : Array Slot) (r' : Int64), some r' = some r → decode cX5_partOf pc = .ok (.lreturn, 1) → WD D A [] H → va_S A s.heap H locs → W p l e rmX5_partOf s m args below meth c H locs 0 0 Q (F0 m pc ls [.long r']) := by
    intro pc H locs ls r' h hd hP hS
    cases h
    exact hret0 pc H locs ls hd hP hS
  have hl : lv_has ls 5 [(0, .long p0), (2, .long p1), (4, .int p2)] := hl
  have h := hf
  unfold fX5_partOf at h
  refine lv_lload_n hx hb dX5_partOf_0 rfl (lv_at hl 0 rfl) ?_
  refine lv_lconst (v := 0) hx hb dX5_partOf_1 (by decide) ?_
  refine W.lcmp hx hb dX5_partOf_2 ?_
  refine lv_if_ne (tgt := 10) hx hb dX5_partOf_3 (by decide) (fun hc9 => ?_) (fun hc9 => ?_)
  · have h := it_n hc9 h
    refine lv_iload hx hb dX5_partOf_10 (lv_at hl 2 rfl) ?_
    refine lv_if_ne (tgt := 19) hx hb dX5_partOf_12 (by decide) (fun hc10 => ?_) (fun hc10 => ?_)
    · have h := it_n hc10 h
      refine lv_lload_n hx hb dX5_partOf_19 rfl (lv_at hl 1 rfl) ?_
      refine lv_lload_n hx hb dX5_partOf_20 rfl (lv_at hl 0 rfl) ?_
      refine lv_lload_n hx hb dX5_partOf_21 rfl (lv_at hl 1 rfl) ?_
      obtain ⟨r11, hk12, h⟩ := bd1_e h
      refine cS_l (rest := [.long p1]) F (kX5_gcd l D cI cJ H.size g p0 p1 r11 hk12) (va_cwS 2 hts gX5_partOf_X5_gcd rfl rfl rfl eSX5_gcd ⟨Nat.le_of_ble_eq_true rfl, Nat.le_of_ble_eq_true rfl⟩) [] hP hS (by decide) rfl rfl rfl hl.1 (Nat.le_of_ble_eq_true rfl) ⟨Nat.le_refl _, Nat.le_refl _⟩ rfl dX5_partOf_22 (fun H locs hP hS => ?_)
      have hP : WD D A [] H := hP
      obtain ⟨hg13, h⟩ := gd_e h
      refine lv_ldiv hx hb dX5_partOf_25 hg13 ?_
      exact hret 26 H locs ls (p1 / r11) h dX5_partOf_26 hP hS
    · have h := it_p hc10 h
      refine lv_lload_n hx hb dX5_partOf_15 rfl (lv_at hl 0 rfl) ?_
      refine lv_goto (tgt := 20) hx hb dX5_partOf_16 (by decide) ?_
      refine lv_lload_n hx hb dX5_partOf_20 rfl (lv_at hl 0 rfl) ?_
      refine lv_lload_n hx hb dX5_partOf_21 rfl (lv_at hl 1 rfl) ?_
      obtain ⟨r14, hk15, h⟩ := bd1_e h
      refine cS_l (rest := [.long p0]) F (kX5_gcd l D cI cJ H.size g p0 p1 r14 hk15) (va_cwS 2 hts gX5_partOf_X5_gcd rfl rfl rfl eSX5_gcd ⟨Nat.le_of_ble_eq_true rfl, Nat.le_of_ble_eq_true rfl⟩) [] hP hS (by decide) rfl rfl rfl hl.1 (Nat.le_of_ble_eq_true rfl) ⟨Nat.le_refl _, Nat.le_refl _⟩ rfl dX5_partOf_22 (fun H locs hP hS => ?_)
      have hP : WD D A [] H := hP
      obtain ⟨hg16, h⟩ := gd_e h
      refine lv_ldiv hx hb dX5_partOf_25 hg16 ?_
      exact hret 26 H locs ls (p0 / r14) h dX5_partOf_26 hP hS
  · have h := it_p hc9 h
    refine lv_iload hx hb dX5_partOf_6 (lv_at hl 2 rfl) ?_
    refine lv_i2l (v := p2.toInt64) hx hb dX5_partOf_8 rfl ?_
    exact hret 9 H locs ls p2.toInt64 h dX5_partOf_9 hP hS
theorem eSX5_storm : yX5_storm.cls ≠ "java/lang/invoke/MethodHandle" ∧ yX5_storm.cls ≠ "java/lang/invoke/VarHandle" ∧ (parseMethodDescriptor yX5_storm.desc).map (fun d => d.parameters.length) = some 4 := by decide +kernel
theorem eVX5_storm : yX5_storm.cls = RX5 ∧ yX5_storm.cls ≠ "java/lang/invoke/MethodHandle" ∧ yX5_storm.cls ≠ "java/lang/invoke/VarHandle" ∧ (parseMethodDescriptor yX5_storm.desc).map (fun d => d.parameters.length) = some 4 := ⟨rfl, eSX5_storm⟩
abbrev rmX5_storm : Room := { frames := 6, cells := 0, slots := 0, locals := 135 }
def fX5_storm_L75_b (g : Nat) (x2_L75 : Int32) (x3_L75 : Int32) (self : Int64 → Int32 → Option (Int64)) (x7_L75 : Int64) (x9_L75 : Int32) : Option (Int64) := if x2_L75 ≤ x9_L75 then (some x7_L75) else (self (x7_L75 * x3_L75.toInt64) (x9_L75 + 1))
def fX5_storm_L75 (g : Nat) (x2_L75 : Int32) (x3_L75 : Int32) (n : Nat) : Int64 → Int32 → Option (Int64) := lp (fX5_storm_L75_b g x2_L75 x3_L75) (fun _ _ => none) n
def fX5_storm_L122_b (g : Nat) (x2_L122 : Int32) (x3_L122 : Int32) (x9_L122 : Int32) (self : Int64 → Int32 → (Nat → Int32) → Option (Int64 × (Nat → Int32))) (x10_L122 : Int64) (x12_L122 : Int32) (z_m_L122 : Nat → Int32) : Option (Int64 × (Nat → Int32)) := if x2_L122 ≤ x12_L122 then (some (x10_L122, z_m_L122)) else (bd1 (fX5_has g x9_L122 x12_L122) fun r56 => (if r56 = 0 then (bd1 (fX5_has g x9_L122 x12_L122) fun r59 => (bd1 (fX5_day g r59 z_m_L122) fun z_m_61 => (self (x10_L122 * ((x3_L122 - 1).toInt64)) (x12_L122 + 1) z_m_61))) else (bd1 (fX5_has g x9_L122 x12_L122) fun r63 => (bd1 (fX5_day g r63 z_m_L122) fun z_m_65 => (self (x10_L122 * 1) (x12_L122 + 1) z_m_65)))))
def fX5_storm_L122 (g : Nat) (x2_L122 : Int32) (x3_L122 : Int32) (x9_L122 : Int32) (n : Nat) : Int64 → Int32 → (Nat → Int32) → Option (Int64 × (Nat → Int32)) := lp (fX5_storm_L122_b g x2_L122 x3_L122 x9_L122) (fun _ _ _ => none) n
def fX5_storm_L97_b (g : Nat) (x1_L97 : Int32) (x2_L97 : Int32) (x3_L97 : Int32) (z_s : Nat → Int32) (self : Int64 → Int32 → (Nat → Int32) → Option (Int64 × (Nat → Int32))) (x5_L97 : Int64) (x9_L97 : Int32) (z_m_L97 : Nat → Int32) : Option (Int64 × (Nat → Int32)) := if (1 <<< (x2_L97 &&& 31)) ≤ x9_L97 then (some (x5_L97, z_m_L97)) else (bd1 (fX5_copies g z_s z_m_L97) fun z_m_53 => (bd2 (fX5_storm_L122 g x2_L97 x3_L97 x9_L97 g 1 0 z_m_53) fun t67 t68 => (gd (inB (4 + x1_L97) 45) (if (t68 3) = (z_s (4 + x1_L97).toNatClampNeg) then (self (x5_L97 + t67) (x9_L97 + 1) t68) else (self (x5_L97 + 0) (x9_L97 + 1) t68)))))
def fX5_storm_L97 (g : Nat) (x1_L97 : Int32) (x2_L97 : Int32) (x3_L97 : Int32) (z_s : Nat → Int32) (n : Nat) : Int64 → Int32 → (Nat → Int32) → Option (Int64 × (Nat → Int32)) := lp (fX5_storm_L97_b g x1_L97 x2_L97 x3_L97 z_s) (fun _ _ _ => none) n
def fX5_storm (g : Nat) (p0 : Int32) (p1 : Int32) (p2 : Int32) (p3 : Int32) (z_s : Nat → Int32) (z_m : Nat → Int32) (z_refused : Nat → Int32) : Option (Int64 × (Nat → Int32) × (Nat → Int32)) := bd1 (fX5_isPlace g p0 z_s) fun r34 => (if r34 = 0 then (bd2 (fX5_noWide g (-1) z_refused) fun r90 z_refused_91 => (some (r90, z_m, z_refused_91))) else (if p1 < 0 then (bd2 (fX5_noWide g (-4) z_refused) fun r38 z_refused_39 => (some (r38, z_m, z_refused_39))) else (if 2 ≤ p2 then (if 7 < p1 then (bd2 (fX5_noWide g (-6) z_refused) fun r43 z_refused_44 => (some (r43, z_m, z_refused_44))) else (if p2 ≤ 20 then (bd1 (fX5_isIn g p3 0 1) fun r47 => (if r47 = 0 then (bd2 (fX5_noWide g (-2) z_refused) fun r81 z_refused_82 => (some (r81, z_m, z_refused_82))) else (bd1 (fX5_storm_L75 g p1 p2 g 1 0) fun t51 => (bd2 (fX5_storm_L97 g p0 p1 p2 z_s g 0 0 z_m) fun t73 t74 => (bd1 (fX5_partOf g t73 t51 p3) fun r75 => (some (r75, t74, z_refused))))))) else (bd2 (fX5_noWide g (-6) z_refused) fun r84 z_refused_85 => (some (r84, z_m, z_refused_85))))) else (bd2 (fX5_noWide g (-4) z_refused) fun r87 z_refused_88 => (some (r87, z_m, z_refused_88))))))
set_option maxHeartbeats 4000000 in
set_option maxRecDepth 100000 in
theorem kX5_storm (l : Launch) (D : va_G) (cI cJ : ClassId) (sz g : Nat) (a_z a_z_s a_z_m a_z_image a_z_was a_z_letters a_z_row a_z_refused a_z_numbers : Nat) (z_hasImage : Int32) (z_letterMany : Int32) (z_rowMany : Int32) (z_reading : Int32) (z_seed : Int32) (z_s : Nat → Int32) (z_m : Nat → Int32) (z_refused : Nat → Int32) (p0 : Int32) (p1 : Int32) (p2 : Int32) (p3 : Int32) (r : Int64) (n_z_m : Nat → Int32) (n_z_refused : Nat → Int32) (hf : fX5_storm g p0 p1 p2 p3 z_s z_m z_refused = some (r, n_z_m, n_z_refused)) : Met l yX5_storm wsX5_storm rmX5_storm (va_Pc [.ref a_z, .int p0, .int p1, .int p2, .int p3] (sPc D (tyL cI cJ) [(a_z, .inr (5, [.ref a_z_s, .ref a_z_m, .ref a_z_image, .ref a_z_was, .int z_hasImage, .ref a_z_letters, .ref a_z_row, .ref a_z_refused, .int z_letterMany, .int z_rowMany, .int z_reading, .ref a_z_numbers, .int z_seed])), (a_z_s, .inl (cI, 45, .inl z_s)), (a_z_m, .inl (cI, 45, .inl z_m)), (a_z_refused, .inl (cI, 7, .inl z_refused))] sz)) (qL D (tyL cI cJ) [(a_z, .inr (5, [.ref a_z_s, .ref a_z_m, .ref a_z_image, .ref a_z_was, .int z_hasImage, .ref a_z_letters, .ref a_z_row, .ref a_z_refused, .int z_letterMany, .int z_rowMany, .int z_reading, .ref a_z_numbers, .int z_seed])), (a_z_s, .inl (cI, 45, .inl z_s)), (a_z_m, .inl (cI, 45, .inl z_m)), (a_z_refused, .inl (cI, 7, .inl z_refused))] sz [(a_z, .inr (5, [.ref a_z_s, .ref a_z_m, .ref a_z_image, .ref a_z_was, .int z_hasImage, .ref a_z_letters, .ref a_z_row, .ref a_z_refused, .int z_letterMany, .int z_rowMany, .int z_reading, .ref a_z_numbers, .int z_seed])), (a_z_s, .inl (cI, 45, .inl z_s)), (a_z_m, .inl (cI, 45, .inl n_z_m)), (a_z_refused, .inl (cI, 7, .inl n_z_refused))] r) 0 0 (va_A [(a_z, .inr (5, [.ref a_z_s, .ref a_z_m, .ref a_z_image, .ref a_z_was, .int z_hasImage, .ref a_z_letters, .ref a_z_row, .ref a_z_refused, .int z_letterMany, .int z_rowMany, .int z_reading, .ref a_z_numbers, .int z_seed])), (a_z_s, .inl (cI, 45, .inl z_s)), (a_z_m, .inl (cI, 45, .inl z_m)), (a_z_refused, .inl (cI, 7, .inl z_refused))] sz) := by
  refine st_l (cc := cX5_storm) (maxL := 13) (by decide) rfl (Nat.le_of_ble_eq_true rfl) ?_
  intro p e s m args below meth c A Q F hret0 H locs hP hS ls hl
  have F : Cx p s m args c cX5_storm 13 wsX5_storm RX5 D (tyL cI cJ) A := F
  have hx := F.1.1
  have hb := F.1.2.1
  have hown := F.1.2.2.2.1
  have hts := F.1.2.2.2.2
  have iX5 : ∀ w ∈ wsX50, w ∈ wsX5_storm := fun w h => (List.mem_cons_of_mem _ (List.mem_append_right _ h))
  have hret : ∀ (pc : Nat) (H : Heap) (locs : List Loc) (ls : Array Slot) (r' : Int64) (m_z_m : Nat → Int32) (m_z_refused : Nat → Int32), some (r', m_z_m, m_z_refused) = some (r, n_z_m, n_z_refused) → decode cX5_storm pc = .ok (.lreturn, 1) → WD D A [(a_z, .inr (5, [.ref a_z_s, .ref a_z_m, .ref a_z_image, .ref a_z_was, .int z_hasImage, .ref a_z_letters, .ref a_z_row, .ref a_z_refused, .int z_letterMany, .int z_rowMany, .int z_reading, .ref a_z_numbers, .int z_seed])), (a_z_s, .inl (cI, 45, .inl z_s)), (a_z_m, .inl (cI, 45, .inl m_z_m)), (a_z_refused, .inl (cI, 7, .inl m_z_refused))] H → va_S A s.heap H locs → W p l e rmX5_storm s m args below meth c H locs 0 0 Q (F0 m pc ls [.long r']) := by
    intro pc H locs ls r' m_z_m m_z_refused h hd hP hS
    cases h
    exact hret0 pc H locs ls hd hP hS
  have L75 : ∀ (x1_L75 : Int32) (x2_L75 : Int32) (x3_L75 : Int32) (x4_L75 : Int32) (x5_L75 : Int64) (z_m_L75 : Nat → Int32) (z_refused_L75 : Nat → Int32) (n : Nat) (x7_L75 : Int64) (x9_L75 : Int32) (tt0 : Int64) (H : Heap) (locs : List Loc) (ls : Array Slot), fX5_storm_L75 g x2_L75 x3_L75 n x7_L75 x9_L75 = some tt0 → WD D A [(a_z, .inr (5, [.ref a_z_s, .ref a_z_m, .ref a_z_image, .ref a_z_was, .int z_hasImage, .ref a_z_letters, .ref a_z_row, .ref a_z_refused, .int z_letterMany, .int z_rowMany, .int z_reading, .ref a_z_numbers, .int z_seed])), (a_z_s, .inl (cI, 45, .inl z_s)), (a_z_m, .inl (cI, 45, .inl z_m_L75)), (a_z_refused, .inl (cI, 7, .inl z_refused_L75))] H → va_S A s.heap H locs → lv_has ls 13 [(0, .ref a_z), (1, .int x1_L75), (2, .int x2_L75), (3, .int x3_L75), (4, .int x4_L75), (5, .long x5_L75), (7, .long x7_L75), (9, .int x9_L75)] → (∀ (H : Heap) (locs : List Loc) (ls : Array Slot), WD D A [(a_z, .inr (5, [.ref a_z_s, .ref a_z_m, .ref a_z_image, .ref a_z_was, .int z_hasImage, .ref a_z_letters, .ref a_z_row, .ref a_z_refused, .int z_letterMany, .int z_rowMany, .int z_reading, .ref a_z_numbers, .int z_seed])), (a_z_s, .inl (cI, 45, .inl z_s)), (a_z_m, .inl (cI, 45, .inl z_m_L75)), (a_z_refused, .inl (cI, 7, .inl z_refused_L75))] H → va_S A s.heap H locs → lv_has ls 13 [(0, .ref a_z), (1, .int x1_L75), (2, .int x2_L75), (3, .int x3_L75), (4, .int x4_L75), (5, .long x5_L75), (7, .long tt0)] → W p l e rmX5_storm s m args below meth c H locs 0 0 Q (F0 m 94 ls [])) → W p l e rmX5_storm s m args below meth c H locs 0 0 Q (F0 m 75 ls []) := by
    intro x1_L75 x2_L75 x3_L75 x4_L75 x5_L75 z_m_L75 z_refused_L75 n
    induction n with
    | zero =>
      intro x7_L75 x9_L75 tt0 H locs ls h
      exact (no_some h).elim
    | succ n ih =>
      intro x7_L75 x9_L75 tt0 H locs ls h hP hS hl kE
      have h : fX5_storm_L75_b g x2_L75 x3_L75 (fX5_storm_L75 g x2_L75 x3_L75 n) x7_L75 x9_L75 = some tt0 := h
      unfold fX5_storm_L75_b at h
      refine lv_iload hx hb dX5_storm_75 (lv_at hl 7 rfl) ?_
      refine lv_iload_n hx hb dX5_storm_77 rfl (lv_at hl 2 rfl) ?_
      refine lv_icmp_ge (tgt := 94) hx hb dX5_storm_78 (by decide) (fun hc50 => ?_) (fun hc50 => ?_)
      · have h := it_p hc50 h
        cases h
        exact kE H locs ls hP hS (lv_sub hl [0, 1, 2, 3, 4, 5, 6] rfl)
      · have h := it_n hc50 h
        refine lv_lload hx hb dX5_storm_81 (lv_at hl 6 rfl) ?_
        refine lv_iload_n hx hb dX5_storm_83 rfl (lv_at hl 3 rfl) ?_
        refine lv_i2l (v := x3_L75.toInt64) hx hb dX5_storm_84 rfl ?_
        refine lv_lmul hx hb dX5_storm_85 ?_
        refine lv_lstore (lv' := [(7, .long (x7_L75 * x3_L75.toInt64)), (0, .ref a_z), (1, .int x1_L75), (2, .int x2_L75), (3, .int x3_L75), (4, .int x4_L75), (5, .long x5_L75), (9, .int x9_L75)]) hx hb dX5_storm_86 hl (by decide) rfl (fun ls hl => ?_)
        refine lv_iinc (v := x9_L75 + 1) (lv' := [(9, .int (x9_L75 + 1)), (7, .long (x7_L75 * x3_L75.toInt64)), (0, .ref a_z), (1, .int x1_L75), (2, .int x2_L75), (3, .int x3_L75), (4, .int x4_L75), (5, .long x5_L75)]) hx hb dX5_storm_88 hl (k := 7) rfl rfl (by decide) rfl (fun ls hl => ?_)
        refine lv_goto (tgt := 75) hx hb dX5_storm_91 (by decide) ?_
        exact ih (x7_L75 * x3_L75.toInt64) (x9_L75 + 1) tt0 H locs ls h hP hS (lv_sub hl [2, 3, 4, 5, 6, 7, 1, 0] rfl) kE
  have L122 : ∀ (x1_L122 : Int32) (x2_L122 : Int32) (x3_L122 : Int32) (x4_L122 : Int32) (x5_L122 : Int64) (x7_L122 : Int64) (x9_L122 : Int32) (z_refused_L122 : Nat → Int32) (n : Nat) (x10_L122 : Int64) (x12_L122 : Int32) (z_m_L122 : Nat → Int32) (tt0 : Int64) (tt1 : Nat → Int32) (H : Heap) (locs : List Loc) (ls : Array Slot), fX5_storm_L122 g x2_L122 x3_L122 x9_L122 n x10_L122 x12_L122 z_m_L122 = some (tt0, tt1) → WD D A [(a_z, .inr (5, [.ref a_z_s, .ref a_z_m, .ref a_z_image, .ref a_z_was, .int z_hasImage, .ref a_z_letters, .ref a_z_row, .ref a_z_refused, .int z_letterMany, .int z_rowMany, .int z_reading, .ref a_z_numbers, .int z_seed])), (a_z_s, .inl (cI, 45, .inl z_s)), (a_z_m, .inl (cI, 45, .inl z_m_L122)), (a_z_refused, .inl (cI, 7, .inl z_refused_L122))] H → va_S A s.heap H locs → lv_has ls 13 [(0, .ref a_z), (1, .int x1_L122), (2, .int x2_L122), (3, .int x3_L122), (4, .int x4_L122), (5, .long x5_L122), (7, .long x7_L122), (9, .int x9_L122), (10, .long x10_L122), (12, .int x12_L122)] → (∀ (H : Heap) (locs : List Loc) (ls : Array Slot), WD D A [(a_z, .inr (5, [.ref a_z_s, .ref a_z_m, .ref a_z_image, .ref a_z_was, .int z_hasImage, .ref a_z_letters, .ref a_z_row, .ref a_z_refused, .int z_letterMany, .int z_rowMany, .int z_reading, .ref a_z_numbers, .int z_seed])), (a_z_s, .inl (cI, 45, .inl z_s)), (a_z_m, .inl (cI, 45, .inl tt1)), (a_z_refused, .inl (cI, 7, .inl z_refused_L122))] H → va_S A s.heap H locs → lv_has ls 13 [(0, .ref a_z), (1, .int x1_L122), (2, .int x2_L122), (3, .int x3_L122), (4, .int x4_L122), (5, .long x5_L122), (7, .long x7_L122), (9, .int x9_L122), (10, .long tt0)] → W p l e rmX5_storm s m args below meth c H locs 0 0 Q (F0 m 171 ls [])) → W p l e rmX5_storm s m args below meth c H locs 0 0 Q (F0 m 122 ls []) := by
    intro x1_L122 x2_L122 x3_L122 x4_L122 x5_L122 x7_L122 x9_L122 z_refused_L122 n
    induction n with
    | zero =>
      intro x10_L122 x12_L122 z_m_L122 tt0 tt1 H locs ls h
      exact (no_some h).elim
    | succ n ih =>
      intro x10_L122 x12_L122 z_m_L122 tt0 tt1 H locs ls h hP hS hl kE
      have h : fX5_storm_L122_b g x2_L122 x3_L122 x9_L122 (fX5_storm_L122 g x2_L122 x3_L122 x9_L122 n) x10_L122 x12_L122 z_m_L122 = some (tt0, tt1) := h
      unfold fX5_storm_L122_b at h
      refine lv_iload hx hb dX5_storm_122 (lv_at hl 9 rfl) ?_
      refine lv_iload_n hx hb dX5_storm_124 rfl (lv_at hl 2 rfl) ?_
      refine lv_icmp_ge (tgt := 171) hx hb dX5_storm_125 (by decide) (fun hc55 => ?_) (fun hc55 => ?_)
      · have h := it_p hc55 h
        cases h
        exact kE H locs ls hP hS (lv_sub hl [0, 1, 2, 3, 4, 5, 6, 7, 8] rfl)
      · have h := it_n hc55 h
        refine lv_lload hx hb dX5_storm_128 (lv_at hl 8 rfl) ?_
        refine lv_iload hx hb dX5_storm_130 (lv_at hl 7 rfl) ?_
        refine lv_iload hx hb dX5_storm_132 (lv_at hl 9 rfl) ?_
        obtain ⟨r56, hk57, h⟩ := bd1_e h
        refine cS_i (rest := [.long x10_L122]) F (kX5_has l D cI cJ H.size g x9_L122 x12_L122 r56 hk57) (va_cwS 2 hts gX5_storm_X5_has rfl rfl rfl eSX5_has ⟨Nat.le_of_ble_eq_true rfl, Nat.le_of_ble_eq_true rfl⟩) [] hP hS (by decide) rfl rfl rfl hl.1 (Nat.le_of_ble_eq_true rfl) ⟨Nat.le_refl _, Nat.le_refl _⟩ rfl dX5_storm_134 (fun H locs hP hS => ?_)
        have hP : WD D A [(a_z, .inr (5, [.ref a_z_s, .ref a_z_m, .ref a_z_image, .ref a_z_was, .int z_hasImage, .ref a_z_letters, .ref a_z_row, .ref a_z_refused, .int z_letterMany, .int z_rowMany, .int z_reading, .ref a_z_numbers, .int z_seed])), (a_z_s, .inl (cI, 45, .inl z_s)), (a_z_m, .inl (cI, 45, .inl z_m_L122)), (a_z_refused, .inl (cI, 7, .inl z_refused_L122))] H := hP
        refine lv_if_eq (tgt := 144) hx hb dX5_storm_137 (by decide) (fun hc58 => ?_) (fun hc58 => ?_)
        · have h := it_p hc58 h
          refine lv_iload_n hx hb dX5_storm_144 rfl (lv_at hl 3 rfl) ?_
          refine lv_iconst (v := 1) hx hb dX5_storm_145 (by decide) ?_
          refine lv_isub hx hb dX5_storm_146 ?_
          refine lv_i2l (v := (x3_L122 - 1).toInt64) hx hb dX5_storm_147 rfl ?_
          refine lv_lmul hx hb dX5_storm_148 ?_
          refine lv_lstore (lv' := [(10, .long (x10_L122 * ((x3_L122 - 1).toInt64))), (0, .ref a_z), (1, .int x1_L122), (2, .int x2_L122), (3, .int x3_L122), (4, .int x4_L122), (5, .long x5_L122), (7, .long x7_L122), (9, .int x9_L122), (12, .int x12_L122)]) hx hb dX5_storm_149 hl (by decide) rfl (fun ls hl => ?_)
          refine lv_aload_n hx hb dX5_storm_151 rfl (lv_at hl 1 rfl) ?_
          refine gt_X5_13 F iX5 (List.mem_cons_of_mem _ (List.mem_append_left _ (List.mem_append_left _ (List.mem_of_getElem? (i := 1) rfl)))) hP 0 rfl dX5_storm_152 ?_
          refine lv_iload hx hb dX5_storm_155 (lv_at hl 8 rfl) ?_
          refine lv_iload hx hb dX5_storm_157 (lv_at hl 9 rfl) ?_
          obtain ⟨r59, hk60, h⟩ := bd1_e h
          refine cS_i (rest := [.ref a_z_m]) F (kX5_has l D cI cJ H.size g x9_L122 x12_L122 r59 hk60) (va_cwS 2 hts gX5_storm_X5_has rfl rfl rfl eSX5_has ⟨Nat.le_of_ble_eq_true rfl, Nat.le_of_ble_eq_true rfl⟩) [] hP hS (by decide) rfl rfl rfl hl.1 (Nat.le_of_ble_eq_true rfl) ⟨Nat.le_refl _, Nat.le_refl _⟩ rfl dX5_storm_159 (fun H locs hP hS => ?_)
          have hP : WD D A [(a_z, .inr (5, [.ref a_z_s, .ref a_z_m, .ref a_z_image, .ref a_z_was, .int z_hasImage, .ref a_z_letters, .ref a_z_row, .ref a_z_refused, .int z_letterMany, .int z_rowMany, .int z_reading, .ref a_z_numbers, .int z_seed])), (a_z_s, .inl (cI, 45, .inl z_s)), (a_z_m, .inl (cI, 45, .inl z_m_L122)), (a_z_refused, .inl (cI, 7, .inl z_refused_L122))] H := hP
          obtain ⟨z_m_61, hk62, h⟩ := bd1_e h
          refine cS_v (rest := []) F (kX5_day l D cI cJ H.size g a_z_m z_m_L122 r59 z_m_61 hk62) (va_cwS 2 hts gX5_storm_X5_day rfl rfl rfl eSX5_day ⟨Nat.le_of_ble_eq_true rfl, Nat.le_of_ble_eq_true rfl⟩) [2] hP hS (by decide) rfl rfl rfl hl.1 (Nat.le_of_ble_eq_true rfl) ⟨Nat.le_refl _, Nat.le_refl _⟩ rfl dX5_storm_162 (fun H locs hP hS => ?_)
          have hP : WD D A [(a_z, .inr (5, [.ref a_z_s, .ref a_z_m, .ref a_z_image, .ref a_z_was, .int z_hasImage, .ref a_z_letters, .ref a_z_row, .ref a_z_refused, .int z_letterMany, .int z_rowMany, .int z_reading, .ref a_z_numbers, .int z_seed])), (a_z_s, .inl (cI, 45, .inl z_s)), (a_z_m, .inl (cI, 45, .inl z_m_61)), (a_z_refused, .inl (cI, 7, .inl z_refused_L122))] H := hP
          refine lv_iinc (v := x12_L122 + 1) (lv' := [(12, .int (x12_L122 + 1)), (10, .long (x10_L122 * ((x3_L122 - 1).toInt64))), (0, .ref a_z), (1, .int x1_L122), (2, .int x2_L122), (3, .int x3_L122), (4, .int x4_L122), (5, .long x5_L122), (7, .long x7_L122), (9, .int x9_L122)]) hx hb dX5_storm_165 hl (k := 9) rfl rfl (by decide) rfl (fun ls hl => ?_)
          refine lv_goto (tgt := 122) hx hb dX5_storm_168 (by decide) ?_
          exact ih (x10_L122 * ((x3_L122 - 1).toInt64)) (x12_L122 + 1) z_m_61 tt0 tt1 H locs ls h hP hS (lv_sub hl [2, 3, 4, 5, 6, 7, 8, 9, 1, 0] rfl) kE
        · have h := it_n hc58 h
          refine lv_lconst (v := 1) hx hb dX5_storm_140 (by decide) ?_
          refine lv_goto (tgt := 148) hx hb dX5_storm_141 (by decide) ?_
          refine lv_lmul hx hb dX5_storm_148 ?_
          refine lv_lstore (lv' := [(10, .long (x10_L122 * 1)), (0, .ref a_z), (1, .int x1_L122), (2, .int x2_L122), (3, .int x3_L122), (4, .int x4_L122), (5, .long x5_L122), (7, .long x7_L122), (9, .int x9_L122), (12, .int x12_L122)]) hx hb dX5_storm_149 hl (by decide) rfl (fun ls hl => ?_)
          refine lv_aload_n hx hb dX5_storm_151 rfl (lv_at hl 1 rfl) ?_
          refine gt_X5_13 F iX5 (List.mem_cons_of_mem _ (List.mem_append_left _ (List.mem_append_left _ (List.mem_of_getElem? (i := 1) rfl)))) hP 0 rfl dX5_storm_152 ?_
          refine lv_iload hx hb dX5_storm_155 (lv_at hl 8 rfl) ?_
          refine lv_iload hx hb dX5_storm_157 (lv_at hl 9 rfl) ?_
          obtain ⟨r63, hk64, h⟩ := bd1_e h
          refine cS_i (rest := [.ref a_z_m]) F (kX5_has l D cI cJ H.size g x9_L122 x12_L122 r63 hk64) (va_cwS 2 hts gX5_storm_X5_has rfl rfl rfl eSX5_has ⟨Nat.le_of_ble_eq_true rfl, Nat.le_of_ble_eq_true rfl⟩) [] hP hS (by decide) rfl rfl rfl hl.1 (Nat.le_of_ble_eq_true rfl) ⟨Nat.le_refl _, Nat.le_refl _⟩ rfl dX5_storm_159 (fun H locs hP hS => ?_)
          have hP : WD D A [(a_z, .inr (5, [.ref a_z_s, .ref a_z_m, .ref a_z_image, .ref a_z_was, .int z_hasImage, .ref a_z_letters, .ref a_z_row, .ref a_z_refused, .int z_letterMany, .int z_rowMany, .int z_reading, .ref a_z_numbers, .int z_seed])), (a_z_s, .inl (cI, 45, .inl z_s)), (a_z_m, .inl (cI, 45, .inl z_m_L122)), (a_z_refused, .inl (cI, 7, .inl z_refused_L122))] H := hP
          obtain ⟨z_m_65, hk66, h⟩ := bd1_e h
          refine cS_v (rest := []) F (kX5_day l D cI cJ H.size g a_z_m z_m_L122 r63 z_m_65 hk66) (va_cwS 2 hts gX5_storm_X5_day rfl rfl rfl eSX5_day ⟨Nat.le_of_ble_eq_true rfl, Nat.le_of_ble_eq_true rfl⟩) [2] hP hS (by decide) rfl rfl rfl hl.1 (Nat.le_of_ble_eq_true rfl) ⟨Nat.le_refl _, Nat.le_refl _⟩ rfl dX5_storm_162 (fun H locs hP hS => ?_)
          have hP : WD D A [(a_z, .inr (5, [.ref a_z_s, .ref a_z_m, .ref a_z_image, .ref a_z_was, .int z_hasImage, .ref a_z_letters, .ref a_z_row, .ref a_z_refused, .int z_letterMany, .int z_rowMany, .int z_reading, .ref a_z_numbers, .int z_seed])), (a_z_s, .inl (cI, 45, .inl z_s)), (a_z_m, .inl (cI, 45, .inl z_m_65)), (a_z_refused, .inl (cI, 7, .inl z_refused_L122))] H := hP
          refine lv_iinc (v := x12_L122 + 1) (lv' := [(12, .int (x12_L122 + 1)), (10, .long (x10_L122 * 1)), (0, .ref a_z), (1, .int x1_L122), (2, .int x2_L122), (3, .int x3_L122), (4, .int x4_L122), (5, .long x5_L122), (7, .long x7_L122), (9, .int x9_L122)]) hx hb dX5_storm_165 hl (k := 9) rfl rfl (by decide) rfl (fun ls hl => ?_)
          refine lv_goto (tgt := 122) hx hb dX5_storm_168 (by decide) ?_
          exact ih (x10_L122 * 1) (x12_L122 + 1) z_m_65 tt0 tt1 H locs ls h hP hS (lv_sub hl [2, 3, 4, 5, 6, 7, 8, 9, 1, 0] rfl) kE
  have L97 : ∀ (x1_L97 : Int32) (x2_L97 : Int32) (x3_L97 : Int32) (x4_L97 : Int32) (x7_L97 : Int64) (z_refused_L97 : Nat → Int32) (n : Nat) (x5_L97 : Int64) (x9_L97 : Int32) (z_m_L97 : Nat → Int32) (tt0 : Int64) (tt1 : Nat → Int32) (H : Heap) (locs : List Loc) (ls : Array Slot), fX5_storm_L97 g x1_L97 x2_L97 x3_L97 z_s n x5_L97 x9_L97 z_m_L97 = some (tt0, tt1) → WD D A [(a_z, .inr (5, [.ref a_z_s, .ref a_z_m, .ref a_z_image, .ref a_z_was, .int z_hasImage, .ref a_z_letters, .ref a_z_row, .ref a_z_refused, .int z_letterMany, .int z_rowMany, .int z_reading, .ref a_z_numbers, .int z_seed])), (a_z_s, .inl (cI, 45, .inl z_s)), (a_z_m, .inl (cI, 45, .inl z_m_L97)), (a_z_refused, .inl (cI, 7, .inl z_refused_L97))] H → va_S A s.heap H locs → lv_has ls 13 [(0, .ref a_z), (1, .int x1_L97), (2, .int x2_L97), (3, .int x3_L97), (4, .int x4_L97), (5, .long x5_L97), (7, .long x7_L97), (9, .int x9_L97)] → (∀ (H : Heap) (locs : List Loc) (ls : Array Slot), WD D A [(a_z, .inr (5, [.ref a_z_s, .ref a_z_m, .ref a_z_image, .ref a_z_was, .int z_hasImage, .ref a_z_letters, .ref a_z_row, .ref a_z_refused, .int z_letterMany, .int z_rowMany, .int z_reading, .ref a_z_numbers, .int z_seed])), (a_z_s, .inl (cI, 45, .inl z_s)), (a_z_m, .inl (cI, 45, .inl tt1)), (a_z_refused, .inl (cI, 7, .inl z_refused_L97))] H → va_S A s.heap H locs → lv_has ls 13 [(4, .int x4_L97), (5, .long tt0), (7, .long x7_L97)] → W p l e rmX5_storm s m args below meth c H locs 0 0 Q (F0 m 205 ls [])) → W p l e rmX5_storm s m args below meth c H locs 0 0 Q (F0 m 97 ls []) := by
    intro x1_L97 x2_L97 x3_L97 x4_L97 x7_L97 z_refused_L97 n
    induction n with
    | zero =>
      intro x5_L97 x9_L97 z_m_L97 tt0 tt1 H locs ls h
      exact (no_some h).elim
    | succ n ih =>
      intro x5_L97 x9_L97 z_m_L97 tt0 tt1 H locs ls h hP hS hl kE
      have h : fX5_storm_L97_b g x1_L97 x2_L97 x3_L97 z_s (fX5_storm_L97 g x1_L97 x2_L97 x3_L97 z_s n) x5_L97 x9_L97 z_m_L97 = some (tt0, tt1) := h
      unfold fX5_storm_L97_b at h
      refine lv_iload hx hb dX5_storm_97 (lv_at hl 7 rfl) ?_
      refine lv_iconst (v := 1) hx hb dX5_storm_99 (by decide) ?_
      refine lv_iload_n hx hb dX5_storm_100 rfl (lv_at hl 2 rfl) ?_
      refine lv_ishl hx hb dX5_storm_101 ?_
      refine lv_icmp_ge (tgt := 205) hx hb dX5_storm_102 (by decide) (fun hc52 => ?_) (fun hc52 => ?_)
      · have h := it_p hc52 h
        cases h
        exact kE H locs ls hP hS (lv_sub hl [4, 5, 6] rfl)
      · have h := it_n hc52 h
        refine lv_lconst (v := 1) hx hb dX5_storm_105 (by decide) ?_
        refine lv_lstore (lv' := [(10, .long 1), (0, .ref a_z), (1, .int x1_L97), (2, .int x2_L97), (3, .int x3_L97), (4, .int x4_L97), (5, .long x5_L97), (7, .long x7_L97), (9, .int x9_L97)]) hx hb dX5_storm_106 hl (by decide) rfl (fun ls hl => ?_)
        refine lv_aload_n hx hb dX5_storm_108 rfl (lv_at hl 1 rfl) ?_
        refine gt_X5_9 F iX5 (List.mem_cons_of_mem _ (List.mem_append_left _ (List.mem_append_left _ (List.mem_of_getElem? (i := 0) rfl)))) hP 0 rfl dX5_storm_109 ?_
        refine lv_aload_n hx hb dX5_storm_112 rfl (lv_at hl 1 rfl) ?_
        refine gt_X5_13 F iX5 (List.mem_cons_of_mem _ (List.mem_append_left _ (List.mem_append_left _ (List.mem_of_getElem? (i := 1) rfl)))) hP 0 rfl dX5_storm_113 ?_
        obtain ⟨z_m_53, hk54, h⟩ := bd1_e h
        refine cS_v (rest := []) F (kX5_copies l D cI cJ H.size g a_z_s a_z_m z_s z_m_L97 z_m_53 hk54) (va_cwS 2 hts gX5_storm_X5_copies rfl rfl rfl eSX5_copies ⟨Nat.le_of_ble_eq_true rfl, Nat.le_of_ble_eq_true rfl⟩) [1, 2] hP hS (by decide) rfl rfl rfl hl.1 (Nat.le_of_ble_eq_true rfl) ⟨Nat.le_refl _, Nat.le_refl _⟩ rfl dX5_storm_116 (fun H locs hP hS => ?_)
        have hP : WD D A [(a_z, .inr (5, [.ref a_z_s, .ref a_z_m, .ref a_z_image, .ref a_z_was, .int z_hasImage, .ref a_z_letters, .ref a_z_row, .ref a_z_refused, .int z_letterMany, .int z_rowMany, .int z_reading, .ref a_z_numbers, .int z_seed])), (a_z_s, .inl (cI, 45, .inl z_s)), (a_z_m, .inl (cI, 45, .inl z_m_53)), (a_z_refused, .inl (cI, 7, .inl z_refused_L97))] H := hP
        refine lv_iconst (v := 0) hx hb dX5_storm_119 (by decide) ?_
        refine lv_istore (lv' := [(12, .int 0), (10, .long 1), (0, .ref a_z), (1, .int x1_L97), (2, .int x2_L97), (3, .int x3_L97), (4, .int x4_L97), (5, .long x5_L97), (7, .long x7_L97), (9, .int x9_L97)]) hx hb dX5_storm_120 hl (by decide) rfl (fun ls hl => ?_)
        obtain ⟨t67, t68, hk71, h⟩ := bd2_e h
        refine L122 x1_L97 x2_L97 x3_L97 x4_L97 x5_L97 x7_L97 x9_L97 z_refused_L97 g 1 0 z_m_53 t67 t68 H locs ls hk71 hP hS (lv_sub hl [2, 3, 4, 5, 6, 7, 8, 9, 1, 0] rfl) (fun H locs ls hP hS hl => ?_)
        refine lv_lload hx hb dX5_storm_171 (lv_at hl 5 rfl) ?_
        refine lv_aload_n hx hb dX5_storm_173 rfl (lv_at hl 0 rfl) ?_
        refine gt_X5_13 F iX5 (List.mem_cons_of_mem _ (List.mem_append_left _ (List.mem_append_left _ (List.mem_of_getElem? (i := 1) rfl)))) hP 0 rfl dX5_storm_174 ?_
        refine lv_iconst (v := 3) hx hb dX5_storm_177 (by decide) ?_
        refine r_ia F hP 2 rfl (j := 3) rfl (by decide) dX5_storm_178 ?_
        refine lv_aload_n hx hb dX5_storm_179 rfl (lv_at hl 0 rfl) ?_
        refine gt_X5_9 F iX5 (List.mem_cons_of_mem _ (List.mem_append_left _ (List.mem_append_left _ (List.mem_of_getElem? (i := 0) rfl)))) hP 0 rfl dX5_storm_180 ?_
        refine lv_iconst (v := 4) hx hb dX5_storm_183 (by decide) ?_
        refine lv_iload_n hx hb dX5_storm_184 rfl (lv_at hl 1 rfl) ?_
        refine lv_iadd hx hb dX5_storm_185 ?_
        obtain ⟨hg69, h⟩ := gd_e h
        refine r_ia F hP 1 rfl rfl hg69 dX5_storm_186 ?_
        refine lv_icmp_ne (tgt := 195) hx hb dX5_storm_187 (by decide) (fun hc70 => ?_) (fun hc70 => ?_)
        · have h := it_n hc70 h
          refine lv_lconst (v := 0) hx hb dX5_storm_195 (by decide) ?_
          refine lv_ladd hx hb dX5_storm_196 ?_
          refine lv_lstore (lv' := [(5, .long (x5_L97 + 0)), (0, .ref a_z), (1, .int x1_L97), (2, .int x2_L97), (3, .int x3_L97), (4, .int x4_L97), (7, .long x7_L97), (9, .int x9_L97), (10, .long t67)]) hx hb dX5_storm_197 hl (by decide) rfl (fun ls hl => ?_)
          refine lv_iinc (v := x9_L97 + 1) (lv' := [(9, .int (x9_L97 + 1)), (5, .long (x5_L97 + 0)), (0, .ref a_z), (1, .int x1_L97), (2, .int x2_L97), (3, .int x3_L97), (4, .int x4_L97), (7, .long x7_L97), (10, .long t67)]) hx hb dX5_storm_199 hl (k := 7) rfl rfl (by decide) rfl (fun ls hl => ?_)
          refine lv_goto (tgt := 97) hx hb dX5_storm_202 (by decide) ?_
          exact ih (x5_L97 + 0) (x9_L97 + 1) t68 tt0 tt1 H locs ls h hP hS (lv_sub hl [2, 3, 4, 5, 6, 1, 7, 0] rfl) kE
        · have h := it_p hc70 h
          refine lv_lload hx hb dX5_storm_190 (lv_at hl 8 rfl) ?_
          refine lv_goto (tgt := 196) hx hb dX5_storm_192 (by decide) ?_
          refine lv_ladd hx hb dX5_storm_196 ?_
          refine lv_lstore (lv' := [(5, .long (x5_L97 + t67)), (0, .ref a_z), (1, .int x1_L97), (2, .int x2_L97), (3, .int x3_L97), (4, .int x4_L97), (7, .long x7_L97), (9, .int x9_L97), (10, .long t67)]) hx hb dX5_storm_197 hl (by decide) rfl (fun ls hl => ?_)
          refine lv_iinc (v := x9_L97 + 1) (lv' := [(9, .int (x9_L97 + 1)), (5, .long (x5_L97 + t67)), (0, .ref a_z), (1, .int x1_L97), (2, .int x2_L97), (3, .int x3_L97), (4, .int x4_L97), (7, .long x7_L97), (10, .long t67)]) hx hb dX5_storm_199 hl (k := 7) rfl rfl (by decide) rfl (fun ls hl => ?_)
          refine lv_goto (tgt := 97) hx hb dX5_storm_202 (by decide) ?_
          exact ih (x5_L97 + t67) (x9_L97 + 1) t68 tt0 tt1 H locs ls h hP hS (lv_sub hl [2, 3, 4, 5, 6, 1, 7, 0] rfl) kE
  have hl : lv_has ls 13 [(0, .ref a_z), (1, .int p0), (2, .int p1), (3, .int p2), (4, .int p3)] := hl
  have h := hf
  unfold fX5_storm at h
  refine lv_aload_n hx hb dX5_storm_0 rfl (lv_at hl 0 rfl) ?_
  refine lv_iload_n hx hb dX5_storm_1 rfl (lv_at hl 1 rfl) ?_
  obtain ⟨r34, hk35, h⟩ := bd1_e h
  refine cV_i (rest := []) F (kX5_isPlace l D cI cJ H.size g a_z a_z_s a_z_m a_z_image a_z_was a_z_letters a_z_row a_z_refused a_z_numbers z_hasImage z_letterMany z_rowMany z_reading z_seed z_s p0 r34 hk35) (cwV 1 hts gX5_storm_X5_isPlace rfl rfl rfl eVX5_isPlace ⟨Nat.le_of_ble_eq_true rfl, Nat.le_of_ble_eq_true rfl⟩) [0, 1] hP hS (by decide) rfl rfl 0 rfl rfl rfl hl.1 (Nat.le_of_ble_eq_true rfl) ⟨Nat.le_refl _, Nat.le_refl _⟩ rfl dX5_storm_2 (fun H locs hP hS => ?_)
  have hP : WD D A [(a_z, .inr (5, [.ref a_z_s, .ref a_z_m, .ref a_z_image, .ref a_z_was, .int z_hasImage, .ref a_z_letters, .ref a_z_row, .ref a_z_refused, .int z_letterMany, .int z_rowMany, .int z_reading, .ref a_z_numbers, .int z_seed])), (a_z_s, .inl (cI, 45, .inl z_s)), (a_z_m, .inl (cI, 45, .inl z_m)), (a_z_refused, .inl (cI, 7, .inl z_refused))] H := hP
  refine lv_if_ne (tgt := 14) hx hb dX5_storm_5 (by decide) (fun hc36 => ?_) (fun hc36 => ?_)
  · have h := it_n hc36 h
    refine lv_iload_n hx hb dX5_storm_14 rfl (lv_at hl 2 rfl) ?_
    refine lv_if_lt (tgt := 23) hx hb dX5_storm_15 (by decide) (fun hc37 => ?_) (fun hc37 => ?_)
    · have h := it_p hc37 h
      refine lv_aload_n hx hb dX5_storm_23 rfl (lv_at hl 0 rfl) ?_
      refine lv_bipush (v := (-4)) hx hb dX5_storm_24 (by decide) ?_
      obtain ⟨r38, z_refused_39, hk40, h⟩ := bd2_e h
      refine cV_l (rest := []) F (kX5_noWide l D cI cJ H.size g a_z a_z_s a_z_m a_z_image a_z_was a_z_letters a_z_row a_z_refused a_z_numbers z_hasImage z_letterMany z_rowMany z_reading z_seed z_refused (-4) r38 z_refused_39 hk40) (cwV 1 hts gX5_storm_X5_noWide rfl rfl rfl eVX5_noWide ⟨Nat.le_of_ble_eq_true rfl, Nat.le_of_ble_eq_true rfl⟩) [0, 3] hP hS (by decide) rfl rfl 0 rfl rfl rfl hl.1 (Nat.le_of_ble_eq_true rfl) ⟨Nat.le_refl _, Nat.le_refl _⟩ rfl dX5_storm_26 (fun H locs hP hS => ?_)
      have hP : WD D A [(a_z, .inr (5, [.ref a_z_s, .ref a_z_m, .ref a_z_image, .ref a_z_was, .int z_hasImage, .ref a_z_letters, .ref a_z_row, .ref a_z_refused, .int z_letterMany, .int z_rowMany, .int z_reading, .ref a_z_numbers, .int z_seed])), (a_z_s, .inl (cI, 45, .inl z_s)), (a_z_m, .inl (cI, 45, .inl z_m)), (a_z_refused, .inl (cI, 7, .inl z_refused_39))] H := hP
      exact hret 29 H locs ls r38 z_m z_refused_39 h dX5_storm_29 hP hS
    · have h := it_n hc37 h
      refine lv_iload_n hx hb dX5_storm_18 rfl (lv_at hl 3 rfl) ?_
      refine lv_iconst (v := 2) hx hb dX5_storm_19 (by decide) ?_
      refine lv_icmp_ge (tgt := 30) hx hb dX5_storm_20 (by decide) (fun hc41 => ?_) (fun hc41 => ?_)
      · have h := it_p hc41 h
        refine lv_iload_n hx hb dX5_storm_30 rfl (lv_at hl 2 rfl) ?_
        refine lv_bipush (v := 7) hx hb dX5_storm_31 (by decide) ?_
        refine lv_icmp_gt (tgt := 42) hx hb dX5_storm_33 (by decide) (fun hc42 => ?_) (fun hc42 => ?_)
        · have h := it_p hc42 h
          refine lv_aload_n hx hb dX5_storm_42 rfl (lv_at hl 0 rfl) ?_
          refine lv_bipush (v := (-6)) hx hb dX5_storm_43 (by decide) ?_
          obtain ⟨r43, z_refused_44, hk45, h⟩ := bd2_e h
          refine cV_l (rest := []) F (kX5_noWide l D cI cJ H.size g a_z a_z_s a_z_m a_z_image a_z_was a_z_letters a_z_row a_z_refused a_z_numbers z_hasImage z_letterMany z_rowMany z_reading z_seed z_refused (-6) r43 z_refused_44 hk45) (cwV 1 hts gX5_storm_X5_noWide rfl rfl rfl eVX5_noWide ⟨Nat.le_of_ble_eq_true rfl, Nat.le_of_ble_eq_true rfl⟩) [0, 3] hP hS (by decide) rfl rfl 0 rfl rfl rfl hl.1 (Nat.le_of_ble_eq_true rfl) ⟨Nat.le_refl _, Nat.le_refl _⟩ rfl dX5_storm_45 (fun H locs hP hS => ?_)
          have hP : WD D A [(a_z, .inr (5, [.ref a_z_s, .ref a_z_m, .ref a_z_image, .ref a_z_was, .int z_hasImage, .ref a_z_letters, .ref a_z_row, .ref a_z_refused, .int z_letterMany, .int z_rowMany, .int z_reading, .ref a_z_numbers, .int z_seed])), (a_z_s, .inl (cI, 45, .inl z_s)), (a_z_m, .inl (cI, 45, .inl z_m)), (a_z_refused, .inl (cI, 7, .inl z_refused_44))] H := hP
          exact hret 48 H locs ls r43 z_m z_refused_44 h dX5_storm_48 hP hS
        · have h := it_n hc42 h
          refine lv_iload_n hx hb dX5_storm_36 rfl (lv_at hl 3 rfl) ?_
          refine lv_bipush (v := 20) hx hb dX5_storm_37 (by decide) ?_
          refine lv_icmp_le (tgt := 49) hx hb dX5_storm_39 (by decide) (fun hc46 => ?_) (fun hc46 => ?_)
          · have h := it_p hc46 h
            refine lv_iload hx hb dX5_storm_49 (lv_at hl 4 rfl) ?_
            refine lv_iconst (v := 0) hx hb dX5_storm_51 (by decide) ?_
            refine lv_iconst (v := 1) hx hb dX5_storm_52 (by decide) ?_
            obtain ⟨r47, hk48, h⟩ := bd1_e h
            refine cS_i (rest := []) F (kX5_isIn l D cI cJ H.size g p3 0 1 r47 hk48) (va_cwS 3 hts gX5_storm_X5_isIn rfl rfl rfl eSX5_isIn ⟨Nat.le_of_ble_eq_true rfl, Nat.le_of_ble_eq_true rfl⟩) [] hP hS (by decide) rfl rfl rfl hl.1 (Nat.le_of_ble_eq_true rfl) ⟨Nat.le_refl _, Nat.le_refl _⟩ rfl dX5_storm_53 (fun H locs hP hS => ?_)
            have hP : WD D A [(a_z, .inr (5, [.ref a_z_s, .ref a_z_m, .ref a_z_image, .ref a_z_was, .int z_hasImage, .ref a_z_letters, .ref a_z_row, .ref a_z_refused, .int z_letterMany, .int z_rowMany, .int z_reading, .ref a_z_numbers, .int z_seed])), (a_z_s, .inl (cI, 45, .inl z_s)), (a_z_m, .inl (cI, 45, .inl z_m)), (a_z_refused, .inl (cI, 7, .inl z_refused))] H := hP
            refine lv_if_ne (tgt := 66) hx hb dX5_storm_56 (by decide) (fun hc49 => ?_) (fun hc49 => ?_)
            · have h := it_n hc49 h
              refine lv_lconst (v := 0) hx hb dX5_storm_66 (by decide) ?_
              refine lv_lstore (lv' := [(5, .long 0), (0, .ref a_z), (1, .int p0), (2, .int p1), (3, .int p2), (4, .int p3)]) hx hb dX5_storm_67 hl (by decide) rfl (fun ls hl => ?_)
              refine lv_lconst (v := 1) hx hb dX5_storm_69 (by decide) ?_
              refine lv_lstore (lv' := [(7, .long 1), (5, .long 0), (0, .ref a_z), (1, .int p0), (2, .int p1), (3, .int p2), (4, .int p3)]) hx hb dX5_storm_70 hl (by decide) rfl (fun ls hl => ?_)
              refine lv_iconst (v := 0) hx hb dX5_storm_72 (by decide) ?_
              refine lv_istore (lv' := [(9, .int 0), (7, .long 1), (5, .long 0), (0, .ref a_z), (1, .int p0), (2, .int p1), (3, .int p2), (4, .int p3)]) hx hb dX5_storm_73 hl (by decide) rfl (fun ls hl => ?_)
              obtain ⟨t51, hk79, h⟩ := bd1_e h
              refine L75 p0 p1 p2 p3 0 z_m z_refused g 1 0 t51 H locs ls hk79 hP hS (lv_sub hl [3, 4, 5, 6, 7, 2, 1, 0] rfl) (fun H locs ls hP hS hl => ?_)
              refine lv_iconst (v := 0) hx hb dX5_storm_94 (by decide) ?_
              refine lv_istore (lv' := [(9, .int 0), (0, .ref a_z), (1, .int p0), (2, .int p1), (3, .int p2), (4, .int p3), (5, .long 0), (7, .long t51)]) hx hb dX5_storm_95 hl (by decide) rfl (fun ls hl => ?_)
              obtain ⟨t73, t74, hk77, h⟩ := bd2_e h
              refine L97 p0 p1 p2 p3 t51 z_refused g 0 0 z_m t73 t74 H locs ls hk77 hP hS (lv_sub hl [1, 2, 3, 4, 5, 6, 7, 0] rfl) (fun H locs ls hP hS hl => ?_)
              refine lv_lload hx hb dX5_storm_205 (lv_at hl 1 rfl) ?_
              refine lv_lload hx hb dX5_storm_207 (lv_at hl 2 rfl) ?_
              refine lv_iload hx hb dX5_storm_209 (lv_at hl 0 rfl) ?_
              obtain ⟨r75, hk76, h⟩ := bd1_e h
              refine cS_l (rest := []) F (kX5_partOf l D cI cJ H.size g t73 t51 p3 r75 hk76) (va_cwS 3 hts gX5_storm_X5_partOf rfl rfl rfl eSX5_partOf ⟨Nat.le_of_ble_eq_true rfl, Nat.le_of_ble_eq_true rfl⟩) [] hP hS (by decide) rfl rfl rfl hl.1 (Nat.le_of_ble_eq_true rfl) ⟨Nat.le_refl _, Nat.le_refl _⟩ rfl dX5_storm_211 (fun H locs hP hS => ?_)
              have hP : WD D A [(a_z, .inr (5, [.ref a_z_s, .ref a_z_m, .ref a_z_image, .ref a_z_was, .int z_hasImage, .ref a_z_letters, .ref a_z_row, .ref a_z_refused, .int z_letterMany, .int z_rowMany, .int z_reading, .ref a_z_numbers, .int z_seed])), (a_z_s, .inl (cI, 45, .inl z_s)), (a_z_m, .inl (cI, 45, .inl t74)), (a_z_refused, .inl (cI, 7, .inl z_refused))] H := hP
              exact hret 214 H locs ls r75 t74 z_refused h dX5_storm_214 hP hS
            · have h := it_p hc49 h
              refine lv_aload_n hx hb dX5_storm_59 rfl (lv_at hl 0 rfl) ?_
              refine lv_bipush (v := (-2)) hx hb dX5_storm_60 (by decide) ?_
              obtain ⟨r81, z_refused_82, hk83, h⟩ := bd2_e h
              refine cV_l (rest := []) F (kX5_noWide l D cI cJ H.size g a_z a_z_s a_z_m a_z_image a_z_was a_z_letters a_z_row a_z_refused a_z_numbers z_hasImage z_letterMany z_rowMany z_reading z_seed z_refused (-2) r81 z_refused_82 hk83) (cwV 1 hts gX5_storm_X5_noWide rfl rfl rfl eVX5_noWide ⟨Nat.le_of_ble_eq_true rfl, Nat.le_of_ble_eq_true rfl⟩) [0, 3] hP hS (by decide) rfl rfl 0 rfl rfl rfl hl.1 (Nat.le_of_ble_eq_true rfl) ⟨Nat.le_refl _, Nat.le_refl _⟩ rfl dX5_storm_62 (fun H locs hP hS => ?_)
              have hP : WD D A [(a_z, .inr (5, [.ref a_z_s, .ref a_z_m, .ref a_z_image, .ref a_z_was, .int z_hasImage, .ref a_z_letters, .ref a_z_row, .ref a_z_refused, .int z_letterMany, .int z_rowMany, .int z_reading, .ref a_z_numbers, .int z_seed])), (a_z_s, .inl (cI, 45, .inl z_s)), (a_z_m, .inl (cI, 45, .inl z_m)), (a_z_refused, .inl (cI, 7, .inl z_refused_82))] H := hP
              exact hret 65 H locs ls r81 z_m z_refused_82 h dX5_storm_65 hP hS
          · have h := it_n hc46 h
            refine lv_aload_n hx hb dX5_storm_42 rfl (lv_at hl 0 rfl) ?_
            refine lv_bipush (v := (-6)) hx hb dX5_storm_43 (by decide) ?_
            obtain ⟨r84, z_refused_85, hk86, h⟩ := bd2_e h
            refine cV_l (rest := []) F (kX5_noWide l D cI cJ H.size g a_z a_z_s a_z_m a_z_image a_z_was a_z_letters a_z_row a_z_refused a_z_numbers z_hasImage z_letterMany z_rowMany z_reading z_seed z_refused (-6) r84 z_refused_85 hk86) (cwV 1 hts gX5_storm_X5_noWide rfl rfl rfl eVX5_noWide ⟨Nat.le_of_ble_eq_true rfl, Nat.le_of_ble_eq_true rfl⟩) [0, 3] hP hS (by decide) rfl rfl 0 rfl rfl rfl hl.1 (Nat.le_of_ble_eq_true rfl) ⟨Nat.le_refl _, Nat.le_refl _⟩ rfl dX5_storm_45 (fun H locs hP hS => ?_)
            have hP : WD D A [(a_z, .inr (5, [.ref a_z_s, .ref a_z_m, .ref a_z_image, .ref a_z_was, .int z_hasImage, .ref a_z_letters, .ref a_z_row, .ref a_z_refused, .int z_letterMany, .int z_rowMany, .int z_reading, .ref a_z_numbers, .int z_seed])), (a_z_s, .inl (cI, 45, .inl z_s)), (a_z_m, .inl (cI, 45, .inl z_m)), (a_z_refused, .inl (cI, 7, .inl z_refused_85))] H := hP
            exact hret 48 H locs ls r84 z_m z_refused_85 h dX5_storm_48 hP hS
      · have h := it_n hc41 h
        refine lv_aload_n hx hb dX5_storm_23 rfl (lv_at hl 0 rfl) ?_
        refine lv_bipush (v := (-4)) hx hb dX5_storm_24 (by decide) ?_
        obtain ⟨r87, z_refused_88, hk89, h⟩ := bd2_e h
        refine cV_l (rest := []) F (kX5_noWide l D cI cJ H.size g a_z a_z_s a_z_m a_z_image a_z_was a_z_letters a_z_row a_z_refused a_z_numbers z_hasImage z_letterMany z_rowMany z_reading z_seed z_refused (-4) r87 z_refused_88 hk89) (cwV 1 hts gX5_storm_X5_noWide rfl rfl rfl eVX5_noWide ⟨Nat.le_of_ble_eq_true rfl, Nat.le_of_ble_eq_true rfl⟩) [0, 3] hP hS (by decide) rfl rfl 0 rfl rfl rfl hl.1 (Nat.le_of_ble_eq_true rfl) ⟨Nat.le_refl _, Nat.le_refl _⟩ rfl dX5_storm_26 (fun H locs hP hS => ?_)
        have hP : WD D A [(a_z, .inr (5, [.ref a_z_s, .ref a_z_m, .ref a_z_image, .ref a_z_was, .int z_hasImage, .ref a_z_letters, .ref a_z_row, .ref a_z_refused, .int z_letterMany, .int z_rowMany, .int z_reading, .ref a_z_numbers, .int z_seed])), (a_z_s, .inl (cI, 45, .inl z_s)), (a_z_m, .inl (cI, 45, .inl z_m)), (a_z_refused, .inl (cI, 7, .inl z_refused_88))] H := hP
        exact hret 29 H locs ls r87 z_m z_refused_88 h dX5_storm_29 hP hS
  · have h := it_p hc36 h
    refine lv_aload_n hx hb dX5_storm_8 rfl (lv_at hl 0 rfl) ?_
    refine lv_iconst (v := (-1)) hx hb dX5_storm_9 (by decide) ?_
    obtain ⟨r90, z_refused_91, hk92, h⟩ := bd2_e h
    refine cV_l (rest := []) F (kX5_noWide l D cI cJ H.size g a_z a_z_s a_z_m a_z_image a_z_was a_z_letters a_z_row a_z_refused a_z_numbers z_hasImage z_letterMany z_rowMany z_reading z_seed z_refused (-1) r90 z_refused_91 hk92) (cwV 1 hts gX5_storm_X5_noWide rfl rfl rfl eVX5_noWide ⟨Nat.le_of_ble_eq_true rfl, Nat.le_of_ble_eq_true rfl⟩) [0, 3] hP hS (by decide) rfl rfl 0 rfl rfl rfl hl.1 (Nat.le_of_ble_eq_true rfl) ⟨Nat.le_refl _, Nat.le_refl _⟩ rfl dX5_storm_10 (fun H locs hP hS => ?_)
    have hP : WD D A [(a_z, .inr (5, [.ref a_z_s, .ref a_z_m, .ref a_z_image, .ref a_z_was, .int z_hasImage, .ref a_z_letters, .ref a_z_row, .ref a_z_refused, .int z_letterMany, .int z_rowMany, .int z_reading, .ref a_z_numbers, .int z_seed])), (a_z_s, .inl (cI, 45, .inl z_s)), (a_z_m, .inl (cI, 45, .inl z_m)), (a_z_refused, .inl (cI, 7, .inl z_refused_91))] H := hP
    exact hret 13 H locs ls r90 z_m z_refused_91 h dX5_storm_13 hP hS
theorem eSX5_seaAll : yX5_seaAll.cls ≠ "java/lang/invoke/MethodHandle" ∧ yX5_seaAll.cls ≠ "java/lang/invoke/VarHandle" ∧ (parseMethodDescriptor yX5_seaAll.desc).map (fun d => d.parameters.length) = some 1 := by decide +kernel
theorem eVX5_seaAll : yX5_seaAll.cls = RX5 ∧ yX5_seaAll.cls ≠ "java/lang/invoke/MethodHandle" ∧ yX5_seaAll.cls ≠ "java/lang/invoke/VarHandle" ∧ (parseMethodDescriptor yX5_seaAll.desc).map (fun d => d.parameters.length) = some 1 := ⟨rfl, eSX5_seaAll⟩
abbrev rmX5_seaAll : Room := { frames := 2, cells := 0, slots := 0, locals := 42 }
def fX5_seaAll_L4_b (g : Nat) (x1_L4 : Int32) (z_s : Nat → Int32) (self : Int32 → Int32 → Option (Int32)) (x2_L4 : Int32) (x3_L4 : Int32) : Option (Int32) := if (z_s 1) ≤ x3_L4 then (some x2_L4) else (if x1_L4 = 0 then (bd1 (fX5_of g x3_L4 3) fun r4 => (gd (inB r4 45) (self (x2_L4 + (z_s r4.toNatClampNeg)) (x3_L4 + 1)))) else (bd1 (fX5_isAboard g x3_L4 z_s) fun r7 => (if r7 = 0 then (self (x2_L4 + 0) (x3_L4 + 1)) else (bd1 (fX5_of g x3_L4 3) fun r10 => (gd (inB r10 45) (self (x2_L4 + (z_s r10.toNatClampNeg)) (x3_L4 + 1)))))))
def fX5_seaAll_L4 (g : Nat) (x1_L4 : Int32) (z_s : Nat → Int32) (n : Nat) : Int32 → Int32 → Option (Int32) := lp (fX5_seaAll_L4_b g x1_L4 z_s) (fun _ _ => none) n
def fX5_seaAll (g : Nat) (p0 : Int32) (z_s : Nat → Int32) : Option (Int32) := bd1 (fX5_seaAll_L4 g p0 z_s g 0 0) fun t13 => (some t13)
set_option maxHeartbeats 4000000 in
set_option maxRecDepth 100000 in
theorem kX5_seaAll (l : Launch) (D : va_G) (cI cJ : ClassId) (sz g : Nat) (a_z a_z_s a_z_m a_z_image a_z_was a_z_letters a_z_row a_z_refused a_z_numbers : Nat) (z_hasImage : Int32) (z_letterMany : Int32) (z_rowMany : Int32) (z_reading : Int32) (z_seed : Int32) (z_s : Nat → Int32) (p0 : Int32) (r : Int32) (hf : fX5_seaAll g p0 z_s = some r) : Met l yX5_seaAll wsX5_seaAll rmX5_seaAll (va_Pc [.ref a_z, .int p0] (sPc D (tyL cI cJ) [(a_z, .inr (5, [.ref a_z_s, .ref a_z_m, .ref a_z_image, .ref a_z_was, .int z_hasImage, .ref a_z_letters, .ref a_z_row, .ref a_z_refused, .int z_letterMany, .int z_rowMany, .int z_reading, .ref a_z_numbers, .int z_seed])), (a_z_s, .inl (cI, 45, .inl z_s))] sz)) (qI D (tyL cI cJ) [(a_z, .inr (5, [.ref a_z_s, .ref a_z_m, .ref a_z_image, .ref a_z_was, .int z_hasImage, .ref a_z_letters, .ref a_z_row, .ref a_z_refused, .int z_letterMany, .int z_rowMany, .int z_reading, .ref a_z_numbers, .int z_seed])), (a_z_s, .inl (cI, 45, .inl z_s))] sz [(a_z, .inr (5, [.ref a_z_s, .ref a_z_m, .ref a_z_image, .ref a_z_was, .int z_hasImage, .ref a_z_letters, .ref a_z_row, .ref a_z_refused, .int z_letterMany, .int z_rowMany, .int z_reading, .ref a_z_numbers, .int z_seed])), (a_z_s, .inl (cI, 45, .inl z_s))] r) 0 0 (va_A [(a_z, .inr (5, [.ref a_z_s, .ref a_z_m, .ref a_z_image, .ref a_z_was, .int z_hasImage, .ref a_z_letters, .ref a_z_row, .ref a_z_refused, .int z_letterMany, .int z_rowMany, .int z_reading, .ref a_z_numbers, .int z_seed])), (a_z_s, .inl (cI, 45, .inl z_s))] sz) := by
  refine st_i (cc := cX5_seaAll) (maxL := 4) (by decide) rfl (Nat.le_of_ble_eq_true rfl) ?_
  intro p e s m args below meth c A Q F hret0 H locs hP hS ls hl
  have F : Cx p s m args c cX5_seaAll 4 wsX5_seaAll RX5 D (tyL cI cJ) A := F
  have hx := F.1.1
  have hb := F.1.2.1
  have hown := F.1.2.2.2.1
  have hts := F.1.2.2.2.2
  have iX5 : ∀ w ∈ wsX50, w ∈ wsX5_seaAll := fun w h => (List.mem_cons_of_mem _ (List.mem_append_right _ h))
  have hret : ∀ (pc : Nat) (H : Heap) (locs : List Loc) (ls : Array Slot) (r' : Int32), some r' = some r → narrow .int (.int r') = .int r' → decode cX5_seaAll pc = .ok (.ireturn, 1) → WD D A [(a_z, .inr (5, [.ref a_z_s, .ref a_z_m, .ref a_z_image, .ref a_z_was, .int z_hasImage, .ref a_z_letters, .ref a_z_row, .ref a_z_refused, .int z_letterMany, .int z_rowMany, .int z_reading, .ref a_z_numbers, .int z_seed])), (a_z_s, .inl (cI, 45, .inl z_s))] H → va_S A s.heap H locs → W p l e rmX5_seaAll s m args below meth c H locs 0 0 Q (F0 m pc ls [.int r']) := by
    intro pc H locs ls r' h hn hd hP hS
    cases h
    exact hret0 pc H locs ls hn hd hP hS
  have L4 : ∀ (x1_L4 : Int32) (n : Nat) (x2_L4 : Int32) (x3_L4 : Int32) (tt0 : Int32) (H : Heap) (locs : List Loc) (ls : Array Slot), fX5_seaAll_L4 g x1_L4 z_s n x2_L4 x3_L4 = some tt0 → WD D A [(a_z, .inr (5, [.ref a_z_s, .ref a_z_m, .ref a_z_image, .ref a_z_was, .int z_hasImage, .ref a_z_letters, .ref a_z_row, .ref a_z_refused, .int z_letterMany, .int z_rowMany, .int z_reading, .ref a_z_numbers, .int z_seed])), (a_z_s, .inl (cI, 45, .inl z_s))] H → va_S A s.heap H locs → lv_has ls 4 [(0, .ref a_z), (1, .int x1_L4), (2, .int x2_L4), (3, .int x3_L4)] → (∀ (H : Heap) (locs : List Loc) (ls : Array Slot), WD D A [(a_z, .inr (5, [.ref a_z_s, .ref a_z_m, .ref a_z_image, .ref a_z_was, .int z_hasImage, .ref a_z_letters, .ref a_z_row, .ref a_z_refused, .int z_letterMany, .int z_rowMany, .int z_reading, .ref a_z_numbers, .int z_seed])), (a_z_s, .inl (cI, 45, .inl z_s))] H → va_S A s.heap H locs → lv_has ls 4 [(2, .int tt0)] → W p l e rmX5_seaAll s m args below meth c H locs 0 0 Q (F0 m 52 ls [])) → W p l e rmX5_seaAll s m args below meth c H locs 0 0 Q (F0 m 4 ls []) := by
    intro x1_L4 n
    induction n with
    | zero =>
      intro x2_L4 x3_L4 tt0 H locs ls h
      exact (no_some h).elim
    | succ n ih =>
      intro x2_L4 x3_L4 tt0 H locs ls h hP hS hl kE
      have h : fX5_seaAll_L4_b g x1_L4 z_s (fX5_seaAll_L4 g x1_L4 z_s n) x2_L4 x3_L4 = some tt0 := h
      unfold fX5_seaAll_L4_b at h
      refine lv_iload_n hx hb dX5_seaAll_4 rfl (lv_at hl 3 rfl) ?_
      refine lv_aload_n hx hb dX5_seaAll_5 rfl (lv_at hl 0 rfl) ?_
      refine gt_X5_9 F iX5 (List.mem_cons_of_mem _ (List.mem_append_left _ (List.mem_of_getElem? (i := 0) rfl))) hP 0 rfl dX5_seaAll_6 ?_
      refine lv_iconst (v := 1) hx hb dX5_seaAll_9 (by decide) ?_
      refine r_ia F hP 1 rfl (j := 1) rfl (by decide) dX5_seaAll_10 ?_
      refine lv_icmp_ge (tgt := 52) hx hb dX5_seaAll_11 (by decide) (fun hc2 => ?_) (fun hc2 => ?_)
      · have h := it_p hc2 h
        cases h
        exact kE H locs ls hP hS (lv_sub hl [2] rfl)
      · have h := it_n hc2 h
        refine lv_iload_n hx hb dX5_seaAll_14 rfl (lv_at hl 2 rfl) ?_
        refine lv_iload_n hx hb dX5_seaAll_15 rfl (lv_at hl 1 rfl) ?_
        refine lv_if_eq (tgt := 30) hx hb dX5_seaAll_16 (by decide) (fun hc3 => ?_) (fun hc3 => ?_)
        · have h := it_p hc3 h
          refine lv_aload_n hx hb dX5_seaAll_30 rfl (lv_at hl 0 rfl) ?_
          refine gt_X5_9 F iX5 (List.mem_cons_of_mem _ (List.mem_append_left _ (List.mem_of_getElem? (i := 0) rfl))) hP 0 rfl dX5_seaAll_31 ?_
          refine lv_iload_n hx hb dX5_seaAll_34 rfl (lv_at hl 3 rfl) ?_
          refine lv_iconst (v := 3) hx hb dX5_seaAll_35 (by decide) ?_
          obtain ⟨r4, hk5, h⟩ := bd1_e h
          refine cS_i (rest := [.ref a_z_s, .int x2_L4]) F (kX5_of l D cI cJ H.size g x3_L4 3 r4 hk5) (va_cwS 2 hts gX5_seaAll_X5_of rfl rfl rfl eSX5_of ⟨Nat.le_of_ble_eq_true rfl, Nat.le_of_ble_eq_true rfl⟩) [] hP hS (by decide) rfl rfl rfl hl.1 (Nat.le_of_ble_eq_true rfl) ⟨Nat.le_refl _, Nat.le_refl _⟩ rfl dX5_seaAll_36 (fun H locs hP hS => ?_)
          have hP : WD D A [(a_z, .inr (5, [.ref a_z_s, .ref a_z_m, .ref a_z_image, .ref a_z_was, .int z_hasImage, .ref a_z_letters, .ref a_z_row, .ref a_z_refused, .int z_letterMany, .int z_rowMany, .int z_reading, .ref a_z_numbers, .int z_seed])), (a_z_s, .inl (cI, 45, .inl z_s))] H := hP
          obtain ⟨hg6, h⟩ := gd_e h
          refine r_ia F hP 1 rfl rfl hg6 dX5_seaAll_39 ?_
          refine lv_goto (tgt := 44) hx hb dX5_seaAll_40 (by decide) ?_
          refine lv_iadd hx hb dX5_seaAll_44 ?_
          refine lv_istore_n (lv' := [(2, .int (x2_L4 + (z_s r4.toNatClampNeg))), (0, .ref a_z), (1, .int x1_L4), (3, .int x3_L4)]) hx hb dX5_seaAll_45 rfl hl (by decide) rfl (fun ls hl => ?_)
          refine lv_iinc (v := x3_L4 + 1) (lv' := [(3, .int (x3_L4 + 1)), (2, .int (x2_L4 + (z_s r4.toNatClampNeg))), (0, .ref a_z), (1, .int x1_L4)]) hx hb dX5_seaAll_46 hl (k := 3) rfl rfl (by decide) rfl (fun ls hl => ?_)
          refine lv_goto (tgt := 4) hx hb dX5_seaAll_49 (by decide) ?_
          exact ih (x2_L4 + (z_s r4.toNatClampNeg)) (x3_L4 + 1) tt0 H locs ls h hP hS (lv_sub hl [2, 3, 1, 0] rfl) kE
        · have h := it_n hc3 h
          refine lv_aload_n hx hb dX5_seaAll_19 rfl (lv_at hl 0 rfl) ?_
          refine gt_X5_9 F iX5 (List.mem_cons_of_mem _ (List.mem_append_left _ (List.mem_of_getElem? (i := 0) rfl))) hP 0 rfl dX5_seaAll_20 ?_
          refine lv_iload_n hx hb dX5_seaAll_23 rfl (lv_at hl 3 rfl) ?_
          obtain ⟨r7, hk8, h⟩ := bd1_e h
          refine cS_i (rest := [.int x2_L4]) F (kX5_isAboard l D cI cJ H.size g a_z_s z_s x3_L4 r7 hk8) (va_cwS 2 hts gX5_seaAll_X5_isAboard rfl rfl rfl eSX5_isAboard ⟨Nat.le_of_ble_eq_true rfl, Nat.le_of_ble_eq_true rfl⟩) [1] hP hS (by decide) rfl rfl rfl hl.1 (Nat.le_of_ble_eq_true rfl) ⟨Nat.le_refl _, Nat.le_refl _⟩ rfl dX5_seaAll_24 (fun H locs hP hS => ?_)
          have hP : WD D A [(a_z, .inr (5, [.ref a_z_s, .ref a_z_m, .ref a_z_image, .ref a_z_was, .int z_hasImage, .ref a_z_letters, .ref a_z_row, .ref a_z_refused, .int z_letterMany, .int z_rowMany, .int z_reading, .ref a_z_numbers, .int z_seed])), (a_z_s, .inl (cI, 45, .inl z_s))] H := hP
          refine lv_if_eq (tgt := 43) hx hb dX5_seaAll_27 (by decide) (fun hc9 => ?_) (fun hc9 => ?_)
          · have h := it_p hc9 h
            refine lv_iconst (v := 0) hx hb dX5_seaAll_43 (by decide) ?_
            refine lv_iadd hx hb dX5_seaAll_44 ?_
            refine lv_istore_n (lv' := [(2, .int (x2_L4 + 0)), (0, .ref a_z), (1, .int x1_L4), (3, .int x3_L4)]) hx hb dX5_seaAll_45 rfl hl (by decide) rfl (fun ls hl => ?_)
            refine lv_iinc (v := x3_L4 + 1) (lv' := [(3, .int (x3_L4 + 1)), (2, .int (x2_L4 + 0)), (0, .ref a_z), (1, .int x1_L4)]) hx hb dX5_seaAll_46 hl (k := 3) rfl rfl (by decide) rfl (fun ls hl => ?_)
            refine lv_goto (tgt := 4) hx hb dX5_seaAll_49 (by decide) ?_
            exact ih (x2_L4 + 0) (x3_L4 + 1) tt0 H locs ls h hP hS (lv_sub hl [2, 3, 1, 0] rfl) kE
          · have h := it_n hc9 h
            refine lv_aload_n hx hb dX5_seaAll_30 rfl (lv_at hl 0 rfl) ?_
            refine gt_X5_9 F iX5 (List.mem_cons_of_mem _ (List.mem_append_left _ (List.mem_of_getElem? (i := 0) rfl))) hP 0 rfl dX5_seaAll_31 ?_
            refine lv_iload_n hx hb dX5_seaAll_34 rfl (lv_at hl 3 rfl) ?_
            refine lv_iconst (v := 3) hx hb dX5_seaAll_35 (by decide) ?_
            obtain ⟨r10, hk11, h⟩ := bd1_e h
            refine cS_i (rest := [.ref a_z_s, .int x2_L4]) F (kX5_of l D cI cJ H.size g x3_L4 3 r10 hk11) (va_cwS 2 hts gX5_seaAll_X5_of rfl rfl rfl eSX5_of ⟨Nat.le_of_ble_eq_true rfl, Nat.le_of_ble_eq_true rfl⟩) [] hP hS (by decide) rfl rfl rfl hl.1 (Nat.le_of_ble_eq_true rfl) ⟨Nat.le_refl _, Nat.le_refl _⟩ rfl dX5_seaAll_36 (fun H locs hP hS => ?_)
            have hP : WD D A [(a_z, .inr (5, [.ref a_z_s, .ref a_z_m, .ref a_z_image, .ref a_z_was, .int z_hasImage, .ref a_z_letters, .ref a_z_row, .ref a_z_refused, .int z_letterMany, .int z_rowMany, .int z_reading, .ref a_z_numbers, .int z_seed])), (a_z_s, .inl (cI, 45, .inl z_s))] H := hP
            obtain ⟨hg12, h⟩ := gd_e h
            refine r_ia F hP 1 rfl rfl hg12 dX5_seaAll_39 ?_
            refine lv_goto (tgt := 44) hx hb dX5_seaAll_40 (by decide) ?_
            refine lv_iadd hx hb dX5_seaAll_44 ?_
            refine lv_istore_n (lv' := [(2, .int (x2_L4 + (z_s r10.toNatClampNeg))), (0, .ref a_z), (1, .int x1_L4), (3, .int x3_L4)]) hx hb dX5_seaAll_45 rfl hl (by decide) rfl (fun ls hl => ?_)
            refine lv_iinc (v := x3_L4 + 1) (lv' := [(3, .int (x3_L4 + 1)), (2, .int (x2_L4 + (z_s r10.toNatClampNeg))), (0, .ref a_z), (1, .int x1_L4)]) hx hb dX5_seaAll_46 hl (k := 3) rfl rfl (by decide) rfl (fun ls hl => ?_)
            refine lv_goto (tgt := 4) hx hb dX5_seaAll_49 (by decide) ?_
            exact ih (x2_L4 + (z_s r10.toNatClampNeg)) (x3_L4 + 1) tt0 H locs ls h hP hS (lv_sub hl [2, 3, 1, 0] rfl) kE
  have hl : lv_has ls 4 [(0, .ref a_z), (1, .int p0)] := hl
  have h := hf
  unfold fX5_seaAll at h
  refine lv_iconst (v := 0) hx hb dX5_seaAll_0 (by decide) ?_
  refine lv_istore_n (lv' := [(2, .int 0), (0, .ref a_z), (1, .int p0)]) hx hb dX5_seaAll_1 rfl hl (by decide) rfl (fun ls hl => ?_)
  refine lv_iconst (v := 0) hx hb dX5_seaAll_2 (by decide) ?_
  refine lv_istore_n (lv' := [(3, .int 0), (2, .int 0), (0, .ref a_z), (1, .int p0)]) hx hb dX5_seaAll_3 rfl hl (by decide) rfl (fun ls hl => ?_)
  obtain ⟨t13, hk14, h⟩ := bd1_e h
  refine L4 p0 g 0 0 t13 H locs ls hk14 hP hS (lv_sub hl [2, 3, 1, 0] rfl) (fun H locs ls hP hS hl => ?_)
  refine lv_iload_n hx hb dX5_seaAll_52 rfl (lv_at hl 0 rfl) ?_
  exact hret 53 H locs ls t13 h rfl dX5_seaAll_53 hP hS
theorem eSX5_mean : yX5_mean.cls ≠ "java/lang/invoke/MethodHandle" ∧ yX5_mean.cls ≠ "java/lang/invoke/VarHandle" ∧ (parseMethodDescriptor yX5_mean.desc).map (fun d => d.parameters.length) = some 1 := by decide +kernel
theorem eVX5_mean : yX5_mean.cls = RX5 ∧ yX5_mean.cls ≠ "java/lang/invoke/MethodHandle" ∧ yX5_mean.cls ≠ "java/lang/invoke/VarHandle" ∧ (parseMethodDescriptor yX5_mean.desc).map (fun d => d.parameters.length) = some 1 := ⟨rfl, eSX5_mean⟩
abbrev rmX5_mean : Room := { frames := 3, cells := 0, slots := 0, locals := 65 }
def fX5_mean (g : Nat) (p0 : Int32) (z_s : Nat → Int32) (z_refused : Nat → Int32) : Option (Int64 × (Nat → Int32)) := bd1 (fX5_isIn g p0 0 1) fun r15 => (if r15 = 0 then (bd2 (fX5_noWide g (-2) z_refused) fun r18 z_refused_19 => (some (r18, z_refused_19))) else (bd1 (fX5_seaAll g 1 z_s) fun r21 => (bd1 (fX5_aboardIn g z_s) fun r23 => (bd1 (fX5_bits g r23) fun r25 => (bd1 (fX5_partOf g r21.toInt64 r25.toInt64 p0) fun r27 => (some (r27, z_refused)))))))
set_option maxHeartbeats 4000000 in
set_option maxRecDepth 100000 in
theorem kX5_mean (l : Launch) (D : va_G) (cI cJ : ClassId) (sz g : Nat) (a_z a_z_s a_z_m a_z_image a_z_was a_z_letters a_z_row a_z_refused a_z_numbers : Nat) (z_hasImage : Int32) (z_letterMany : Int32) (z_rowMany : Int32) (z_reading : Int32) (z_seed : Int32) (z_s : Nat → Int32) (z_refused : Nat → Int32) (p0 : Int32) (r : Int64) (n_z_refused : Nat → Int32) (hf : fX5_mean g p0 z_s z_refused = some (r, n_z_refused)) : Met l yX5_mean wsX5_mean rmX5_mean (va_Pc [.ref a_z, .int p0] (sPc D (tyL cI cJ) [(a_z, .inr (5, [.ref a_z_s, .ref a_z_m, .ref a_z_image, .ref a_z_was, .int z_hasImage, .ref a_z_letters, .ref a_z_row, .ref a_z_refused, .int z_letterMany, .int z_rowMany, .int z_reading, .ref a_z_numbers, .int z_seed])), (a_z_s, .inl (cI, 45, .inl z_s)), (a_z_refused, .inl (cI, 7, .inl z_refused))] sz)) (qL D (tyL cI cJ) [(a_z, .inr (5, [.ref a_z_s, .ref a_z_m, .ref a_z_image, .ref a_z_was, .int z_hasImage, .ref a_z_letters, .ref a_z_row, .ref a_z_refused, .int z_letterMany, .int z_rowMany, .int z_reading, .ref a_z_numbers, .int z_seed])), (a_z_s, .inl (cI, 45, .inl z_s)), (a_z_refused, .inl (cI, 7, .inl z_refused))] sz [(a_z, .inr (5, [.ref a_z_s, .ref a_z_m, .ref a_z_image, .ref a_z_was, .int z_hasImage, .ref a_z_letters, .ref a_z_row, .ref a_z_refused, .int z_letterMany, .int z_rowMany, .int z_reading, .ref a_z_numbers, .int z_seed])), (a_z_s, .inl (cI, 45, .inl z_s)), (a_z_refused, .inl (cI, 7, .inl n_z_refused))] r) 0 0 (va_A [(a_z, .inr (5, [.ref a_z_s, .ref a_z_m, .ref a_z_image, .ref a_z_was, .int z_hasImage, .ref a_z_letters, .ref a_z_row, .ref a_z_refused, .int z_letterMany, .int z_rowMany, .int z_reading, .ref a_z_numbers, .int z_seed])), (a_z_s, .inl (cI, 45, .inl z_s)), (a_z_refused, .inl (cI, 7, .inl z_refused))] sz) := by
  refine st_l (cc := cX5_mean) (maxL := 2) (by decide) rfl (Nat.le_of_ble_eq_true rfl) ?_
  intro p e s m args below meth c A Q F hret0 H locs hP hS ls hl
  have F : Cx p s m args c cX5_mean 2 wsX5_mean RX5 D (tyL cI cJ) A := F
  have hx := F.1.1
  have hb := F.1.2.1
  have hown := F.1.2.2.2.1
  have hts := F.1.2.2.2.2
  have iX5 : ∀ w ∈ wsX50, w ∈ wsX5_mean := fun w h => (List.mem_cons_of_mem _ (List.mem_append_right _ h))
  have hret : ∀ (pc : Nat) (H : Heap) (locs : List Loc) (ls : Array Slot) (r' : Int64) (m_z_refused : Nat → Int32), some (r', m_z_refused) = some (r, n_z_refused) → decode cX5_mean pc = .ok (.lreturn, 1) → WD D A [(a_z, .inr (5, [.ref a_z_s, .ref a_z_m, .ref a_z_image, .ref a_z_was, .int z_hasImage, .ref a_z_letters, .ref a_z_row, .ref a_z_refused, .int z_letterMany, .int z_rowMany, .int z_reading, .ref a_z_numbers, .int z_seed])), (a_z_s, .inl (cI, 45, .inl z_s)), (a_z_refused, .inl (cI, 7, .inl m_z_refused))] H → va_S A s.heap H locs → W p l e rmX5_mean s m args below meth c H locs 0 0 Q (F0 m pc ls [.long r']) := by
    intro pc H locs ls r' m_z_refused h hd hP hS
    cases h
    exact hret0 pc H locs ls hd hP hS
  have hl : lv_has ls 2 [(0, .ref a_z), (1, .int p0)] := hl
  have h := hf
  unfold fX5_mean at h
  refine lv_iload_n hx hb dX5_mean_0 rfl (lv_at hl 1 rfl) ?_
  refine lv_iconst (v := 0) hx hb dX5_mean_1 (by decide) ?_
  refine lv_iconst (v := 1) hx hb dX5_mean_2 (by decide) ?_
  obtain ⟨r15, hk16, h⟩ := bd1_e h
  refine cS_i (rest := []) F (kX5_isIn l D cI cJ H.size g p0 0 1 r15 hk16) (va_cwS 3 hts gX5_mean_X5_isIn rfl rfl rfl eSX5_isIn ⟨Nat.le_of_ble_eq_true rfl, Nat.le_of_ble_eq_true rfl⟩) [] hP hS (by decide) rfl rfl rfl hl.1 (Nat.le_of_ble_eq_true rfl) ⟨Nat.le_refl _, Nat.le_refl _⟩ rfl dX5_mean_3 (fun H locs hP hS => ?_)
  have hP : WD D A [(a_z, .inr (5, [.ref a_z_s, .ref a_z_m, .ref a_z_image, .ref a_z_was, .int z_hasImage, .ref a_z_letters, .ref a_z_row, .ref a_z_refused, .int z_letterMany, .int z_rowMany, .int z_reading, .ref a_z_numbers, .int z_seed])), (a_z_s, .inl (cI, 45, .inl z_s)), (a_z_refused, .inl (cI, 7, .inl z_refused))] H := hP
  refine lv_if_eq (tgt := 33) hx hb dX5_mean_6 (by decide) (fun hc17 => ?_) (fun hc17 => ?_)
  · have h := it_p hc17 h
    refine lv_aload_n hx hb dX5_mean_33 rfl (lv_at hl 0 rfl) ?_
    refine lv_bipush (v := (-2)) hx hb dX5_mean_34 (by decide) ?_
    obtain ⟨r18, z_refused_19, hk20, h⟩ := bd2_e h
    refine cV_l (rest := []) F (kX5_noWide l D cI cJ H.size g a_z a_z_s a_z_m a_z_image a_z_was a_z_letters a_z_row a_z_refused a_z_numbers z_hasImage z_letterMany z_rowMany z_reading z_seed z_refused (-2) r18 z_refused_19 hk20) (cwV 1 hts gX5_mean_X5_noWide rfl rfl rfl eVX5_noWide ⟨Nat.le_of_ble_eq_true rfl, Nat.le_of_ble_eq_true rfl⟩) [0, 2] hP hS (by decide) rfl rfl 0 rfl rfl rfl hl.1 (Nat.le_of_ble_eq_true rfl) ⟨Nat.le_refl _, Nat.le_refl _⟩ rfl dX5_mean_36 (fun H locs hP hS => ?_)
    have hP : WD D A [(a_z, .inr (5, [.ref a_z_s, .ref a_z_m, .ref a_z_image, .ref a_z_was, .int z_hasImage, .ref a_z_letters, .ref a_z_row, .ref a_z_refused, .int z_letterMany, .int z_rowMany, .int z_reading, .ref a_z_numbers, .int z_seed])), (a_z_s, .inl (cI, 45, .inl z_s)), (a_z_refused, .inl (cI, 7, .inl z_refused_19))] H := hP
    exact hret 39 H locs ls r18 z_refused_19 h dX5_mean_39 hP hS
  · have h := it_n hc17 h
    refine lv_aload_n hx hb dX5_mean_9 rfl (lv_at hl 0 rfl) ?_
    refine lv_iconst (v := 1) hx hb dX5_mean_10 (by decide) ?_
    obtain ⟨r21, hk22, h⟩ := bd1_e h
    refine cV_i (rest := []) F (kX5_seaAll l D cI cJ H.size g a_z a_z_s a_z_m a_z_image a_z_was a_z_letters a_z_row a_z_refused a_z_numbers z_hasImage z_letterMany z_rowMany z_reading z_seed z_s 1 r21 hk22) (cwV 1 hts gX5_mean_X5_seaAll rfl rfl rfl eVX5_seaAll ⟨Nat.le_of_ble_eq_true rfl, Nat.le_of_ble_eq_true rfl⟩) [0, 1] hP hS (by decide) rfl rfl 0 rfl rfl rfl hl.1 (Nat.le_of_ble_eq_true rfl) ⟨Nat.le_refl _, Nat.le_refl _⟩ rfl dX5_mean_11 (fun H locs hP hS => ?_)
    have hP : WD D A [(a_z, .inr (5, [.ref a_z_s, .ref a_z_m, .ref a_z_image, .ref a_z_was, .int z_hasImage, .ref a_z_letters, .ref a_z_row, .ref a_z_refused, .int z_letterMany, .int z_rowMany, .int z_reading, .ref a_z_numbers, .int z_seed])), (a_z_s, .inl (cI, 45, .inl z_s)), (a_z_refused, .inl (cI, 7, .inl z_refused))] H := hP
    refine lv_i2l (v := r21.toInt64) hx hb dX5_mean_14 rfl ?_
    refine lv_aload_n hx hb dX5_mean_15 rfl (lv_at hl 0 rfl) ?_
    refine gt_X5_9 F iX5 (List.mem_cons_of_mem _ (List.mem_append_left _ (List.mem_append_left _ (List.mem_of_getElem? (i := 0) rfl)))) hP 0 rfl dX5_mean_16 ?_
    obtain ⟨r23, hk24, h⟩ := bd1_e h
    refine cS_i (rest := [.long r21.toInt64]) F (kX5_aboardIn l D cI cJ H.size g a_z_s z_s r23 hk24) (va_cwS 1 hts gX5_mean_X5_aboardIn rfl rfl rfl eSX5_aboardIn ⟨Nat.le_of_ble_eq_true rfl, Nat.le_of_ble_eq_true rfl⟩) [1] hP hS (by decide) rfl rfl rfl hl.1 (Nat.le_of_ble_eq_true rfl) ⟨Nat.le_refl _, Nat.le_refl _⟩ rfl dX5_mean_19 (fun H locs hP hS => ?_)
    have hP : WD D A [(a_z, .inr (5, [.ref a_z_s, .ref a_z_m, .ref a_z_image, .ref a_z_was, .int z_hasImage, .ref a_z_letters, .ref a_z_row, .ref a_z_refused, .int z_letterMany, .int z_rowMany, .int z_reading, .ref a_z_numbers, .int z_seed])), (a_z_s, .inl (cI, 45, .inl z_s)), (a_z_refused, .inl (cI, 7, .inl z_refused))] H := hP
    obtain ⟨r25, hk26, h⟩ := bd1_e h
    refine cS_i (rest := [.long r21.toInt64]) F (kX5_bits l D cI cJ H.size g r23 r25 hk26) (va_cwS 1 hts gX5_mean_X5_bits rfl rfl rfl eSX5_bits ⟨Nat.le_of_ble_eq_true rfl, Nat.le_of_ble_eq_true rfl⟩) [] hP hS (by decide) rfl rfl rfl hl.1 (Nat.le_of_ble_eq_true rfl) ⟨Nat.le_refl _, Nat.le_refl _⟩ rfl dX5_mean_22 (fun H locs hP hS => ?_)
    have hP : WD D A [(a_z, .inr (5, [.ref a_z_s, .ref a_z_m, .ref a_z_image, .ref a_z_was, .int z_hasImage, .ref a_z_letters, .ref a_z_row, .ref a_z_refused, .int z_letterMany, .int z_rowMany, .int z_reading, .ref a_z_numbers, .int z_seed])), (a_z_s, .inl (cI, 45, .inl z_s)), (a_z_refused, .inl (cI, 7, .inl z_refused))] H := hP
    refine lv_i2l (v := r25.toInt64) hx hb dX5_mean_25 rfl ?_
    refine lv_iload_n hx hb dX5_mean_26 rfl (lv_at hl 1 rfl) ?_
    obtain ⟨r27, hk28, h⟩ := bd1_e h
    refine cS_l (rest := []) F (kX5_partOf l D cI cJ H.size g r21.toInt64 r25.toInt64 p0 r27 hk28) (va_cwS 3 hts gX5_mean_X5_partOf rfl rfl rfl eSX5_partOf ⟨Nat.le_of_ble_eq_true rfl, Nat.le_of_ble_eq_true rfl⟩) [] hP hS (by decide) rfl rfl rfl hl.1 (Nat.le_of_ble_eq_true rfl) ⟨Nat.le_refl _, Nat.le_refl _⟩ rfl dX5_mean_27 (fun H locs hP hS => ?_)
    have hP : WD D A [(a_z, .inr (5, [.ref a_z_s, .ref a_z_m, .ref a_z_image, .ref a_z_was, .int z_hasImage, .ref a_z_letters, .ref a_z_row, .ref a_z_refused, .int z_letterMany, .int z_rowMany, .int z_reading, .ref a_z_numbers, .int z_seed])), (a_z_s, .inl (cI, 45, .inl z_s)), (a_z_refused, .inl (cI, 7, .inl z_refused))] H := hP
    refine lv_goto (tgt := 39) hx hb dX5_mean_30 (by decide) ?_
    exact hret 39 H locs ls r27 z_refused h dX5_mean_39 hP hS
theorem eSX5_log : yX5_log.cls ≠ "java/lang/invoke/MethodHandle" ∧ yX5_log.cls ≠ "java/lang/invoke/VarHandle" ∧ (parseMethodDescriptor yX5_log.desc).map (fun d => d.parameters.length) = some 2 := by decide +kernel
theorem eVX5_log : yX5_log.cls = RX5 ∧ yX5_log.cls ≠ "java/lang/invoke/MethodHandle" ∧ yX5_log.cls ≠ "java/lang/invoke/VarHandle" ∧ (parseMethodDescriptor yX5_log.desc).map (fun d => d.parameters.length) = some 2 := ⟨rfl, eSX5_log⟩
abbrev rmX5_log : Room := { frames := 6, cells := 0, slots := 0, locals := 135 }
def fX5_log_L92_b (g : Nat) (z_rowMany : Int32) (z_row : Nat → Int32) (self : Int32 → Int32 → (Nat → Int32) → Option (Int32 × (Nat → Int32))) (x5_L92 : Int32) (x6_L92 : Int32) (z_m_L92 : Nat → Int32) : Option (Int32 × (Nat → Int32)) := if z_rowMany ≤ x6_L92 then (some (x5_L92, z_m_L92)) else (gd (inB x6_L92 16) (if (z_m_L92 3) = (z_row x6_L92.toNatClampNeg) then (bd1 (fX5_day g 0 z_m_L92) fun z_m_34 => (self (x5_L92 &&& 1) (x6_L92 + 1) z_m_34)) else (bd1 (fX5_day g 0 z_m_L92) fun z_m_32 => (self (x5_L92 &&& 0) (x6_L92 + 1) z_m_32))))
def fX5_log_L92 (g : Nat) (z_rowMany : Int32) (z_row : Nat → Int32) (n : Nat) : Int32 → Int32 → (Nat → Int32) → Option (Int32 × (Nat → Int32)) := lp (fX5_log_L92_b g z_rowMany z_row) (fun _ _ _ => none) n
def fX5_log_L35_b (g : Nat) (x1_L35 : Int32) (x2_L35 : Int32) (z_rowMany : Int32) (z_s : Nat → Int32) (z_row : Nat → Int32) (self : Int32 → Int32 → (Nat → Int32) → Option (Int32 × (Nat → Int32))) (x3_L35 : Int32) (x4_L35 : Int32) (z_m_L35 : Nat → Int32) : Option (Int32 × (Nat → Int32)) := if x2_L35 = 0 then (if (z_s 0) ≤ x4_L35 then (some (x3_L35, z_m_L35)) else (bd1 (fX5_copies g z_s z_m_L35) fun z_m_50 => (if x2_L35 = 0 then (bd1 (fX5_of g x1_L35 2) fun r61 => (gd (inB r61 45) (bd2 (fX5_log_L92 g z_rowMany z_row g 1 0 (upd z_m_50 r61.toNatClampNeg x4_L35)) fun t64 t65 => (if t64 = 0 then (self (x3_L35 ||| 0) (x4_L35 + 1) t65) else (self (x3_L35 ||| (1 <<< (x4_L35 &&& 31))) (x4_L35 + 1) t65))))) else (bd1 (fX5_of g x1_L35 0) fun r53 => (gd (inB r53 45) (bd2 (fX5_log_L92 g z_rowMany z_row g 1 0 (upd z_m_50 r53.toNatClampNeg x4_L35)) fun t56 t57 => (if t56 = 0 then (self (x3_L35 ||| 0) (x4_L35 + 1) t57) else (self (x3_L35 ||| (1 <<< (x4_L35 &&& 31))) (x4_L35 + 1) t57)))))))) else (if 6 ≤ x4_L35 then (some (x3_L35, z_m_L35)) else (bd1 (fX5_copies g z_s z_m_L35) fun z_m_23 => (if x2_L35 = 0 then (bd1 (fX5_of g x1_L35 2) fun r41 => (gd (inB r41 45) (bd2 (fX5_log_L92 g z_rowMany z_row g 1 0 (upd z_m_23 r41.toNatClampNeg x4_L35)) fun t44 t45 => (if t44 = 0 then (self (x3_L35 ||| 0) (x4_L35 + 1) t45) else (self (x3_L35 ||| (1 <<< (x4_L35 &&& 31))) (x4_L35 + 1) t45))))) else (bd1 (fX5_of g x1_L35 0) fun r26 => (gd (inB r26 45) (bd2 (fX5_log_L92 g z_rowMany z_row g 1 0 (upd z_m_23 r26.toNatClampNeg x4_L35)) fun t36 t37 => (if t36 = 0 then (self (x3_L35 ||| 0) (x4_L35 + 1) t37) else (self (x3_L35 ||| (1 <<< (x4_L35 &&& 31))) (x4_L35 + 1) t37))))))))
def fX5_log_L35 (g : Nat) (x1_L35 : Int32) (x2_L35 : Int32) (z_rowMany : Int32) (z_s : Nat → Int32) (z_row : Nat → Int32) (n : Nat) : Int32 → Int32 → (Nat → Int32) → Option (Int32 × (Nat → Int32)) := lp (fX5_log_L35_b g x1_L35 x2_L35 z_rowMany z_s z_row) (fun _ _ _ => none) n
def fX5_log (g : Nat) (p0 : Int32) (p1 : Int32) (z_rowMany : Int32) (z_s : Nat → Int32) (z_m : Nat → Int32) (z_row : Nat → Int32) (z_refused : Nat → Int32) : Option (Int32 × (Nat → Int32) × (Nat → Int32)) := bd1 (fX5_isHand g p0 z_s) fun r15 => (if r15 = 0 then (bd2 (fX5_no g (-1) z_refused) fun r76 z_refused_77 => (some (r76, z_m, z_refused_77))) else (bd1 (fX5_isIn g p1 0 1) fun r18 => (if r18 = 0 then (bd2 (fX5_no g (-2) z_refused) fun r73 z_refused_74 => (some (r73, z_m, z_refused_74))) else (bd2 (fX5_log_L35 g p0 p1 z_rowMany z_s z_row g 0 0 z_m) fun t69 t70 => (some (t69, t70, z_refused))))))
set_option maxHeartbeats 4000000 in
set_option maxRecDepth 100000 in
theorem kX5_log (l : Launch) (D : va_G) (cI cJ : ClassId) (sz g : Nat) (a_z a_z_s a_z_m a_z_image a_z_was a_z_letters a_z_row a_z_refused a_z_numbers : Nat) (z_hasImage : Int32) (z_letterMany : Int32) (z_rowMany : Int32) (z_reading : Int32) (z_seed : Int32) (z_s : Nat → Int32) (z_m : Nat → Int32) (z_row : Nat → Int32) (z_refused : Nat → Int32) (p0 : Int32) (p1 : Int32) (r : Int32) (n_z_m : Nat → Int32) (n_z_refused : Nat → Int32) (hf : fX5_log g p0 p1 z_rowMany z_s z_m z_row z_refused = some (r, n_z_m, n_z_refused)) : Met l yX5_log wsX5_log rmX5_log (va_Pc [.ref a_z, .int p0, .int p1] (sPc D (tyL cI cJ) [(a_z, .inr (5, [.ref a_z_s, .ref a_z_m, .ref a_z_image, .ref a_z_was, .int z_hasImage, .ref a_z_letters, .ref a_z_row, .ref a_z_refused, .int z_letterMany, .int z_rowMany, .int z_reading, .ref a_z_numbers, .int z_seed])), (a_z_s, .inl (cI, 45, .inl z_s)), (a_z_m, .inl (cI, 45, .inl z_m)), (a_z_row, .inl (cI, 16, .inl z_row)), (a_z_refused, .inl (cI, 7, .inl z_refused))] sz)) (qI D (tyL cI cJ) [(a_z, .inr (5, [.ref a_z_s, .ref a_z_m, .ref a_z_image, .ref a_z_was, .int z_hasImage, .ref a_z_letters, .ref a_z_row, .ref a_z_refused, .int z_letterMany, .int z_rowMany, .int z_reading, .ref a_z_numbers, .int z_seed])), (a_z_s, .inl (cI, 45, .inl z_s)), (a_z_m, .inl (cI, 45, .inl z_m)), (a_z_row, .inl (cI, 16, .inl z_row)), (a_z_refused, .inl (cI, 7, .inl z_refused))] sz [(a_z, .inr (5, [.ref a_z_s, .ref a_z_m, .ref a_z_image, .ref a_z_was, .int z_hasImage, .ref a_z_letters, .ref a_z_row, .ref a_z_refused, .int z_letterMany, .int z_rowMany, .int z_reading, .ref a_z_numbers, .int z_seed])), (a_z_s, .inl (cI, 45, .inl z_s)), (a_z_m, .inl (cI, 45, .inl n_z_m)), (a_z_row, .inl (cI, 16, .inl z_row)), (a_z_refused, .inl (cI, 7, .inl n_z_refused))] r) 0 0 (va_A [(a_z, .inr (5, [.ref a_z_s, .ref a_z_m, .ref a_z_image, .ref a_z_was, .int z_hasImage, .ref a_z_letters, .ref a_z_row, .ref a_z_refused, .int z_letterMany, .int z_rowMany, .int z_reading, .ref a_z_numbers, .int z_seed])), (a_z_s, .inl (cI, 45, .inl z_s)), (a_z_m, .inl (cI, 45, .inl z_m)), (a_z_row, .inl (cI, 16, .inl z_row)), (a_z_refused, .inl (cI, 7, .inl z_refused))] sz) := by
  refine st_i (cc := cX5_log) (maxL := 7) (by decide) rfl (Nat.le_of_ble_eq_true rfl) ?_
  intro p e s m args below meth c A Q F hret0 H locs hP hS ls hl
  have F : Cx p s m args c cX5_log 7 wsX5_log RX5 D (tyL cI cJ) A := F
  have hx := F.1.1
  have hb := F.1.2.1
  have hown := F.1.2.2.2.1
  have hts := F.1.2.2.2.2
  have iX5 : ∀ w ∈ wsX50, w ∈ wsX5_log := fun w h => (List.mem_cons_of_mem _ (List.mem_append_right _ h))
  have hret : ∀ (pc : Nat) (H : Heap) (locs : List Loc) (ls : Array Slot) (r' : Int32) (m_z_m : Nat → Int32) (m_z_refused : Nat → Int32), some (r', m_z_m, m_z_refused) = some (r, n_z_m, n_z_refused) → narrow .int (.int r') = .int r' → decode cX5_log pc = .ok (.ireturn, 1) → WD D A [(a_z, .inr (5, [.ref a_z_s, .ref a_z_m, .ref a_z_image, .ref a_z_was, .int z_hasImage, .ref a_z_letters, .ref a_z_row, .ref a_z_refused, .int z_letterMany, .int z_rowMany, .int z_reading, .ref a_z_numbers, .int z_seed])), (a_z_s, .inl (cI, 45, .inl z_s)), (a_z_m, .inl (cI, 45, .inl m_z_m)), (a_z_row, .inl (cI, 16, .inl z_row)), (a_z_refused, .inl (cI, 7, .inl m_z_refused))] H → va_S A s.heap H locs → W p l e rmX5_log s m args below meth c H locs 0 0 Q (F0 m pc ls [.int r']) := by
    intro pc H locs ls r' m_z_m m_z_refused h hn hd hP hS
    cases h
    exact hret0 pc H locs ls hn hd hP hS
  have L92 : ∀ (x1_L92 : Int32) (x2_L92 : Int32) (x3_L92 : Int32) (x4_L92 : Int32) (z_refused_L92 : Nat → Int32) (n : Nat) (x5_L92 : Int32) (x6_L92 : Int32) (z_m_L92 : Nat → Int32) (tt0 : Int32) (tt1 : Nat → Int32) (H : Heap) (locs : List Loc) (ls : Array Slot), fX5_log_L92 g z_rowMany z_row n x5_L92 x6_L92 z_m_L92 = some (tt0, tt1) → WD D A [(a_z, .inr (5, [.ref a_z_s, .ref a_z_m, .ref a_z_image, .ref a_z_was, .int z_hasImage, .ref a_z_letters, .ref a_z_row, .ref a_z_refused, .int z_letterMany, .int z_rowMany, .int z_reading, .ref a_z_numbers, .int z_seed])), (a_z_s, .inl (cI, 45, .inl z_s)), (a_z_m, .inl (cI, 45, .inl z_m_L92)), (a_z_row, .inl (cI, 16, .inl z_row)), (a_z_refused, .inl (cI, 7, .inl z_refused_L92))] H → va_S A s.heap H locs → lv_has ls 7 [(0, .ref a_z), (1, .int x1_L92), (2, .int x2_L92), (3, .int x3_L92), (4, .int x4_L92), (5, .int x5_L92), (6, .int x6_L92)] → (∀ (H : Heap) (locs : List Loc) (ls : Array Slot), WD D A [(a_z, .inr (5, [.ref a_z_s, .ref a_z_m, .ref a_z_image, .ref a_z_was, .int z_hasImage, .ref a_z_letters, .ref a_z_row, .ref a_z_refused, .int z_letterMany, .int z_rowMany, .int z_reading, .ref a_z_numbers, .int z_seed])), (a_z_s, .inl (cI, 45, .inl z_s)), (a_z_m, .inl (cI, 45, .inl tt1)), (a_z_row, .inl (cI, 16, .inl z_row)), (a_z_refused, .inl (cI, 7, .inl z_refused_L92))] H → va_S A s.heap H locs → lv_has ls 7 [(0, .ref a_z), (1, .int x1_L92), (2, .int x2_L92), (3, .int x3_L92), (4, .int x4_L92), (5, .int tt0)] → W p l e rmX5_log s m args below meth c H locs 0 0 Q (F0 m 141 ls [])) → W p l e rmX5_log s m args below meth c H locs 0 0 Q (F0 m 92 ls []) := by
    intro x1_L92 x2_L92 x3_L92 x4_L92 z_refused_L92 n
    induction n with
    | zero =>
      intro x5_L92 x6_L92 z_m_L92 tt0 tt1 H locs ls h
      exact (no_some h).elim
    | succ n ih =>
      intro x5_L92 x6_L92 z_m_L92 tt0 tt1 H locs ls h hP hS hl kE
      have h : fX5_log_L92_b g z_rowMany z_row (fX5_log_L92 g z_rowMany z_row n) x5_L92 x6_L92 z_m_L92 = some (tt0, tt1) := h
      unfold fX5_log_L92_b at h
      refine lv_iload hx hb dX5_log_92 (lv_at hl 6 rfl) ?_
      refine lv_aload_n hx hb dX5_log_94 rfl (lv_at hl 0 rfl) ?_
      refine gt_X5_201 F iX5 (List.mem_cons_of_mem _ (List.mem_append_left _ (List.mem_append_left _ (List.mem_of_getElem? (i := 2) rfl)))) hP 0 rfl dX5_log_95 ?_
      refine lv_icmp_ge (tgt := 141) hx hb dX5_log_98 (by decide) (fun hc29 => ?_) (fun hc29 => ?_)
      · have h := it_p hc29 h
        cases h
        exact kE H locs ls hP hS (lv_sub hl [0, 1, 2, 3, 4, 5] rfl)
      · have h := it_n hc29 h
        refine lv_iload hx hb dX5_log_101 (lv_at hl 5 rfl) ?_
        refine lv_aload_n hx hb dX5_log_103 rfl (lv_at hl 0 rfl) ?_
        refine gt_X5_13 F iX5 (List.mem_cons_of_mem _ (List.mem_append_left _ (List.mem_append_left _ (List.mem_of_getElem? (i := 1) rfl)))) hP 0 rfl dX5_log_104 ?_
        refine lv_iconst (v := 3) hx hb dX5_log_107 (by decide) ?_
        refine r_ia F hP 2 rfl (j := 3) rfl (by decide) dX5_log_108 ?_
        refine lv_aload_n hx hb dX5_log_109 rfl (lv_at hl 0 rfl) ?_
        refine gt_X5_25 F iX5 (List.mem_cons_of_mem _ (List.mem_append_left _ (List.mem_append_left _ (List.mem_of_getElem? (i := 3) rfl)))) hP 0 rfl dX5_log_110 ?_
        refine lv_iload hx hb dX5_log_113 (lv_at hl 6 rfl) ?_
        obtain ⟨hg30, h⟩ := gd_e h
        refine r_ia F hP 3 rfl rfl hg30 dX5_log_115 ?_
        refine lv_icmp_ne (tgt := 123) hx hb dX5_log_116 (by decide) (fun hc31 => ?_) (fun hc31 => ?_)
        · have h := it_n hc31 h
          refine lv_iconst (v := 0) hx hb dX5_log_123 (by decide) ?_
          refine lv_iand hx hb dX5_log_124 ?_
          refine lv_istore (lv' := [(5, .int (x5_L92 &&& 0)), (0, .ref a_z), (1, .int x1_L92), (2, .int x2_L92), (3, .int x3_L92), (4, .int x4_L92), (6, .int x6_L92)]) hx hb dX5_log_125 hl (by decide) rfl (fun ls hl => ?_)
          refine lv_aload_n hx hb dX5_log_127 rfl (lv_at hl 1 rfl) ?_
          refine gt_X5_13 F iX5 (List.mem_cons_of_mem _ (List.mem_append_left _ (List.mem_append_left _ (List.mem_of_getElem? (i := 1) rfl)))) hP 0 rfl dX5_log_128 ?_
          refine lv_iconst (v := 0) hx hb dX5_log_131 (by decide) ?_
          obtain ⟨z_m_32, hk33, h⟩ := bd1_e h
          refine cS_v (rest := []) F (kX5_day l D cI cJ H.size g a_z_m z_m_L92 0 z_m_32 hk33) (va_cwS 2 hts gX5_log_X5_day rfl rfl rfl eSX5_day ⟨Nat.le_of_ble_eq_true rfl, Nat.le_of_ble_eq_true rfl⟩) [2] hP hS (by decide) rfl rfl rfl hl.1 (Nat.le_of_ble_eq_true rfl) ⟨Nat.le_refl _, Nat.le_refl _⟩ rfl dX5_log_132 (fun H locs hP hS => ?_)
          have hP : WD D A [(a_z, .inr (5, [.ref a_z_s, .ref a_z_m, .ref a_z_image, .ref a_z_was, .int z_hasImage, .ref a_z_letters, .ref a_z_row, .ref a_z_refused, .int z_letterMany, .int z_rowMany, .int z_reading, .ref a_z_numbers, .int z_seed])), (a_z_s, .inl (cI, 45, .inl z_s)), (a_z_m, .inl (cI, 45, .inl z_m_32)), (a_z_row, .inl (cI, 16, .inl z_row)), (a_z_refused, .inl (cI, 7, .inl z_refused_L92))] H := hP
          refine lv_iinc (v := x6_L92 + 1) (lv' := [(6, .int (x6_L92 + 1)), (5, .int (x5_L92 &&& 0)), (0, .ref a_z), (1, .int x1_L92), (2, .int x2_L92), (3, .int x3_L92), (4, .int x4_L92)]) hx hb dX5_log_135 hl (k := 6) rfl rfl (by decide) rfl (fun ls hl => ?_)
          refine lv_goto (tgt := 92) hx hb dX5_log_138 (by decide) ?_
          exact ih (x5_L92 &&& 0) (x6_L92 + 1) z_m_32 tt0 tt1 H locs ls h hP hS (lv_sub hl [2, 3, 4, 5, 6, 1, 0] rfl) kE
        · have h := it_p hc31 h
          refine lv_iconst (v := 1) hx hb dX5_log_119 (by decide) ?_
          refine lv_goto (tgt := 124) hx hb dX5_log_120 (by decide) ?_
          refine lv_iand hx hb dX5_log_124 ?_
          refine lv_istore (lv' := [(5, .int (x5_L92 &&& 1)), (0, .ref a_z), (1, .int x1_L92), (2, .int x2_L92), (3, .int x3_L92), (4, .int x4_L92), (6, .int x6_L92)]) hx hb dX5_log_125 hl (by decide) rfl (fun ls hl => ?_)
          refine lv_aload_n hx hb dX5_log_127 rfl (lv_at hl 1 rfl) ?_
          refine gt_X5_13 F iX5 (List.mem_cons_of_mem _ (List.mem_append_left _ (List.mem_append_left _ (List.mem_of_getElem? (i := 1) rfl)))) hP 0 rfl dX5_log_128 ?_
          refine lv_iconst (v := 0) hx hb dX5_log_131 (by decide) ?_
          obtain ⟨z_m_34, hk35, h⟩ := bd1_e h
          refine cS_v (rest := []) F (kX5_day l D cI cJ H.size g a_z_m z_m_L92 0 z_m_34 hk35) (va_cwS 2 hts gX5_log_X5_day rfl rfl rfl eSX5_day ⟨Nat.le_of_ble_eq_true rfl, Nat.le_of_ble_eq_true rfl⟩) [2] hP hS (by decide) rfl rfl rfl hl.1 (Nat.le_of_ble_eq_true rfl) ⟨Nat.le_refl _, Nat.le_refl _⟩ rfl dX5_log_132 (fun H locs hP hS => ?_)
          have hP : WD D A [(a_z, .inr (5, [.ref a_z_s, .ref a_z_m, .ref a_z_image, .ref a_z_was, .int z_hasImage, .ref a_z_letters, .ref a_z_row, .ref a_z_refused, .int z_letterMany, .int z_rowMany, .int z_reading, .ref a_z_numbers, .int z_seed])), (a_z_s, .inl (cI, 45, .inl z_s)), (a_z_m, .inl (cI, 45, .inl z_m_34)), (a_z_row, .inl (cI, 16, .inl z_row)), (a_z_refused, .inl (cI, 7, .inl z_refused_L92))] H := hP
          refine lv_iinc (v := x6_L92 + 1) (lv' := [(6, .int (x6_L92 + 1)), (5, .int (x5_L92 &&& 1)), (0, .ref a_z), (1, .int x1_L92), (2, .int x2_L92), (3, .int x3_L92), (4, .int x4_L92)]) hx hb dX5_log_135 hl (k := 6) rfl rfl (by decide) rfl (fun ls hl => ?_)
          refine lv_goto (tgt := 92) hx hb dX5_log_138 (by decide) ?_
          exact ih (x5_L92 &&& 1) (x6_L92 + 1) z_m_34 tt0 tt1 H locs ls h hP hS (lv_sub hl [2, 3, 4, 5, 6, 1, 0] rfl) kE
  have L35 : ∀ (x1_L35 : Int32) (x2_L35 : Int32) (z_refused_L35 : Nat → Int32) (n : Nat) (x3_L35 : Int32) (x4_L35 : Int32) (z_m_L35 : Nat → Int32) (tt0 : Int32) (tt1 : Nat → Int32) (H : Heap) (locs : List Loc) (ls : Array Slot), fX5_log_L35 g x1_L35 x2_L35 z_rowMany z_s z_row n x3_L35 x4_L35 z_m_L35 = some (tt0, tt1) → WD D A [(a_z, .inr (5, [.ref a_z_s, .ref a_z_m, .ref a_z_image, .ref a_z_was, .int z_hasImage, .ref a_z_letters, .ref a_z_row, .ref a_z_refused, .int z_letterMany, .int z_rowMany, .int z_reading, .ref a_z_numbers, .int z_seed])), (a_z_s, .inl (cI, 45, .inl z_s)), (a_z_m, .inl (cI, 45, .inl z_m_L35)), (a_z_row, .inl (cI, 16, .inl z_row)), (a_z_refused, .inl (cI, 7, .inl z_refused_L35))] H → va_S A s.heap H locs → lv_has ls 7 [(0, .ref a_z), (1, .int x1_L35), (2, .int x2_L35), (3, .int x3_L35), (4, .int x4_L35)] → (∀ (H : Heap) (locs : List Loc) (ls : Array Slot), WD D A [(a_z, .inr (5, [.ref a_z_s, .ref a_z_m, .ref a_z_image, .ref a_z_was, .int z_hasImage, .ref a_z_letters, .ref a_z_row, .ref a_z_refused, .int z_letterMany, .int z_rowMany, .int z_reading, .ref a_z_numbers, .int z_seed])), (a_z_s, .inl (cI, 45, .inl z_s)), (a_z_m, .inl (cI, 45, .inl tt1)), (a_z_row, .inl (cI, 16, .inl z_row)), (a_z_refused, .inl (cI, 7, .inl z_refused_L35))] H → va_S A s.heap H locs → lv_has ls 7 [(3, .int tt0)] → W p l e rmX5_log s m args below meth c H locs 0 0 Q (F0 m 163 ls [])) → W p l e rmX5_log s m args below meth c H locs 0 0 Q (F0 m 35 ls []) := by
    intro x1_L35 x2_L35 z_refused_L35 n
    induction n with
    | zero =>
      intro x3_L35 x4_L35 z_m_L35 tt0 tt1 H locs ls h
      exact (no_some h).elim
    | succ n ih =>
      intro x3_L35 x4_L35 z_m_L35 tt0 tt1 H locs ls h hP hS hl kE
      have h : fX5_log_L35_b g x1_L35 x2_L35 z_rowMany z_s z_row (fX5_log_L35 g x1_L35 x2_L35 z_rowMany z_s z_row n) x3_L35 x4_L35 z_m_L35 = some (tt0, tt1) := h
      unfold fX5_log_L35_b at h
      refine lv_iload hx hb dX5_log_35 (lv_at hl 4 rfl) ?_
      refine lv_iload_n hx hb dX5_log_37 rfl (lv_at hl 2 rfl) ?_
      refine lv_if_ne (tgt := 50) hx hb dX5_log_38 (by decide) (fun hc21 => ?_) (fun hc21 => ?_)
      · have h := it_n hc21 h
        refine lv_bipush (v := 6) hx hb dX5_log_50 (by decide) ?_
        refine lv_icmp_ge (tgt := 163) hx hb dX5_log_52 (by decide) (fun hc22 => ?_) (fun hc22 => ?_)
        · have h := it_p hc22 h
          cases h
          exact kE H locs ls hP hS (lv_sub hl [3] rfl)
        · have h := it_n hc22 h
          refine lv_iconst (v := 1) hx hb dX5_log_55 (by decide) ?_
          refine lv_istore (lv' := [(5, .int 1), (0, .ref a_z), (1, .int x1_L35), (2, .int x2_L35), (3, .int x3_L35), (4, .int x4_L35)]) hx hb dX5_log_56 hl (by decide) rfl (fun ls hl => ?_)
          refine lv_aload_n hx hb dX5_log_58 rfl (lv_at hl 1 rfl) ?_
          refine gt_X5_9 F iX5 (List.mem_cons_of_mem _ (List.mem_append_left _ (List.mem_append_left _ (List.mem_of_getElem? (i := 0) rfl)))) hP 0 rfl dX5_log_59 ?_
          refine lv_aload_n hx hb dX5_log_62 rfl (lv_at hl 1 rfl) ?_
          refine gt_X5_13 F iX5 (List.mem_cons_of_mem _ (List.mem_append_left _ (List.mem_append_left _ (List.mem_of_getElem? (i := 1) rfl)))) hP 0 rfl dX5_log_63 ?_
          obtain ⟨z_m_23, hk24, h⟩ := bd1_e h
          refine cS_v (rest := []) F (kX5_copies l D cI cJ H.size g a_z_s a_z_m z_s z_m_L35 z_m_23 hk24) (va_cwS 2 hts gX5_log_X5_copies rfl rfl rfl eSX5_copies ⟨Nat.le_of_ble_eq_true rfl, Nat.le_of_ble_eq_true rfl⟩) [1, 2] hP hS (by decide) rfl rfl rfl hl.1 (Nat.le_of_ble_eq_true rfl) ⟨Nat.le_refl _, Nat.le_refl _⟩ rfl dX5_log_66 (fun H locs hP hS => ?_)
          have hP : WD D A [(a_z, .inr (5, [.ref a_z_s, .ref a_z_m, .ref a_z_image, .ref a_z_was, .int z_hasImage, .ref a_z_letters, .ref a_z_row, .ref a_z_refused, .int z_letterMany, .int z_rowMany, .int z_reading, .ref a_z_numbers, .int z_seed])), (a_z_s, .inl (cI, 45, .inl z_s)), (a_z_m, .inl (cI, 45, .inl z_m_23)), (a_z_row, .inl (cI, 16, .inl z_row)), (a_z_refused, .inl (cI, 7, .inl z_refused_L35))] H := hP
          refine lv_aload_n hx hb dX5_log_69 rfl (lv_at hl 1 rfl) ?_
          refine gt_X5_13 F iX5 (List.mem_cons_of_mem _ (List.mem_append_left _ (List.mem_append_left _ (List.mem_of_getElem? (i := 1) rfl)))) hP 0 rfl dX5_log_70 ?_
          refine lv_iload_n hx hb dX5_log_73 rfl (lv_at hl 2 rfl) ?_
          refine lv_iload_n hx hb dX5_log_74 rfl (lv_at hl 3 rfl) ?_
          refine lv_if_ne (tgt := 82) hx hb dX5_log_75 (by decide) (fun hc25 => ?_) (fun hc25 => ?_)
          · have h := it_n hc25 h
            refine lv_iconst (v := 0) hx hb dX5_log_82 (by decide) ?_
            obtain ⟨r26, hk27, h⟩ := bd1_e h
            refine cS_i (rest := [.ref a_z_m]) F (kX5_of l D cI cJ H.size g x1_L35 0 r26 hk27) (va_cwS 2 hts gX5_log_X5_of rfl rfl rfl eSX5_of ⟨Nat.le_of_ble_eq_true rfl, Nat.le_of_ble_eq_true rfl⟩) [] hP hS (by decide) rfl rfl rfl hl.1 (Nat.le_of_ble_eq_true rfl) ⟨Nat.le_refl _, Nat.le_refl _⟩ rfl dX5_log_83 (fun H locs hP hS => ?_)
            have hP : WD D A [(a_z, .inr (5, [.ref a_z_s, .ref a_z_m, .ref a_z_image, .ref a_z_was, .int z_hasImage, .ref a_z_letters, .ref a_z_row, .ref a_z_refused, .int z_letterMany, .int z_rowMany, .int z_reading, .ref a_z_numbers, .int z_seed])), (a_z_s, .inl (cI, 45, .inl z_s)), (a_z_m, .inl (cI, 45, .inl z_m_23)), (a_z_row, .inl (cI, 16, .inl z_row)), (a_z_refused, .inl (cI, 7, .inl z_refused_L35))] H := hP
            refine lv_iload hx hb dX5_log_86 (lv_at hl 5 rfl) ?_
            obtain ⟨hg28, h⟩ := gd_e h
            refine r_is F hP hS 2 rfl rfl hg28 dX5_log_88 (fun H locs hP hS => ?_)
            have hP : WD D A [(a_z, .inr (5, [.ref a_z_s, .ref a_z_m, .ref a_z_image, .ref a_z_was, .int z_hasImage, .ref a_z_letters, .ref a_z_row, .ref a_z_refused, .int z_letterMany, .int z_rowMany, .int z_reading, .ref a_z_numbers, .int z_seed])), (a_z_s, .inl (cI, 45, .inl z_s)), (a_z_m, .inl (cI, 45, .inl (upd z_m_23 r26.toNatClampNeg x4_L35))), (a_z_row, .inl (cI, 16, .inl z_row)), (a_z_refused, .inl (cI, 7, .inl z_refused_L35))] H := hP
            refine lv_iconst (v := 0) hx hb dX5_log_89 (by decide) ?_
            refine lv_istore (lv' := [(6, .int 0), (5, .int 1), (0, .ref a_z), (1, .int x1_L35), (2, .int x2_L35), (3, .int x3_L35), (4, .int x4_L35)]) hx hb dX5_log_90 hl (by decide) rfl (fun ls hl => ?_)
            obtain ⟨t36, t37, hk39, h⟩ := bd2_e h
            refine L92 x1_L35 x2_L35 x3_L35 x4_L35 z_refused_L35 g 1 0 (upd z_m_23 r26.toNatClampNeg x4_L35) t36 t37 H locs ls hk39 hP hS (lv_sub hl [2, 3, 4, 5, 6, 1, 0] rfl) (fun H locs ls hP hS hl => ?_)
            refine lv_iload_n hx hb dX5_log_141 rfl (lv_at hl 3 rfl) ?_
            refine lv_iload hx hb dX5_log_142 (lv_at hl 5 rfl) ?_
            refine lv_if_eq (tgt := 154) hx hb dX5_log_144 (by decide) (fun hc38 => ?_) (fun hc38 => ?_)
            · have h := it_p hc38 h
              refine lv_iconst (v := 0) hx hb dX5_log_154 (by decide) ?_
              refine lv_ior hx hb dX5_log_155 ?_
              refine lv_istore_n (lv' := [(3, .int (x3_L35 ||| 0)), (0, .ref a_z), (1, .int x1_L35), (2, .int x2_L35), (4, .int x4_L35), (5, .int t36)]) hx hb dX5_log_156 rfl hl (by decide) rfl (fun ls hl => ?_)
              refine lv_iinc (v := x4_L35 + 1) (lv' := [(4, .int (x4_L35 + 1)), (3, .int (x3_L35 ||| 0)), (0, .ref a_z), (1, .int x1_L35), (2, .int x2_L35), (5, .int t36)]) hx hb dX5_log_157 hl (k := 4) rfl rfl (by decide) rfl (fun ls hl => ?_)
              refine lv_goto (tgt := 35) hx hb dX5_log_160 (by decide) ?_
              exact ih (x3_L35 ||| 0) (x4_L35 + 1) t37 tt0 tt1 H locs ls h hP hS (lv_sub hl [2, 3, 4, 1, 0] rfl) kE
            · have h := it_n hc38 h
              refine lv_iconst (v := 1) hx hb dX5_log_147 (by decide) ?_
              refine lv_iload hx hb dX5_log_148 (lv_at hl 4 rfl) ?_
              refine lv_ishl hx hb dX5_log_150 ?_
              refine lv_goto (tgt := 155) hx hb dX5_log_151 (by decide) ?_
              refine lv_ior hx hb dX5_log_155 ?_
              refine lv_istore_n (lv' := [(3, .int (x3_L35 ||| (1 <<< (x4_L35 &&& 31)))), (0, .ref a_z), (1, .int x1_L35), (2, .int x2_L35), (4, .int x4_L35), (5, .int t36)]) hx hb dX5_log_156 rfl hl (by decide) rfl (fun ls hl => ?_)
              refine lv_iinc (v := x4_L35 + 1) (lv' := [(4, .int (x4_L35 + 1)), (3, .int (x3_L35 ||| (1 <<< (x4_L35 &&& 31)))), (0, .ref a_z), (1, .int x1_L35), (2, .int x2_L35), (5, .int t36)]) hx hb dX5_log_157 hl (k := 4) rfl rfl (by decide) rfl (fun ls hl => ?_)
              refine lv_goto (tgt := 35) hx hb dX5_log_160 (by decide) ?_
              exact ih (x3_L35 ||| (1 <<< (x4_L35 &&& 31))) (x4_L35 + 1) t37 tt0 tt1 H locs ls h hP hS (lv_sub hl [2, 3, 4, 1, 0] rfl) kE
          · have h := it_p hc25 h
            refine lv_iconst (v := 2) hx hb dX5_log_78 (by decide) ?_
            refine lv_goto (tgt := 83) hx hb dX5_log_79 (by decide) ?_
            obtain ⟨r41, hk42, h⟩ := bd1_e h
            refine cS_i (rest := [.ref a_z_m]) F (kX5_of l D cI cJ H.size g x1_L35 2 r41 hk42) (va_cwS 2 hts gX5_log_X5_of rfl rfl rfl eSX5_of ⟨Nat.le_of_ble_eq_true rfl, Nat.le_of_ble_eq_true rfl⟩) [] hP hS (by decide) rfl rfl rfl hl.1 (Nat.le_of_ble_eq_true rfl) ⟨Nat.le_refl _, Nat.le_refl _⟩ rfl dX5_log_83 (fun H locs hP hS => ?_)
            have hP : WD D A [(a_z, .inr (5, [.ref a_z_s, .ref a_z_m, .ref a_z_image, .ref a_z_was, .int z_hasImage, .ref a_z_letters, .ref a_z_row, .ref a_z_refused, .int z_letterMany, .int z_rowMany, .int z_reading, .ref a_z_numbers, .int z_seed])), (a_z_s, .inl (cI, 45, .inl z_s)), (a_z_m, .inl (cI, 45, .inl z_m_23)), (a_z_row, .inl (cI, 16, .inl z_row)), (a_z_refused, .inl (cI, 7, .inl z_refused_L35))] H := hP
            refine lv_iload hx hb dX5_log_86 (lv_at hl 5 rfl) ?_
            obtain ⟨hg43, h⟩ := gd_e h
            refine r_is F hP hS 2 rfl rfl hg43 dX5_log_88 (fun H locs hP hS => ?_)
            have hP : WD D A [(a_z, .inr (5, [.ref a_z_s, .ref a_z_m, .ref a_z_image, .ref a_z_was, .int z_hasImage, .ref a_z_letters, .ref a_z_row, .ref a_z_refused, .int z_letterMany, .int z_rowMany, .int z_reading, .ref a_z_numbers, .int z_seed])), (a_z_s, .inl (cI, 45, .inl z_s)), (a_z_m, .inl (cI, 45, .inl (upd z_m_23 r41.toNatClampNeg x4_L35))), (a_z_row, .inl (cI, 16, .inl z_row)), (a_z_refused, .inl (cI, 7, .inl z_refused_L35))] H := hP
            refine lv_iconst (v := 0) hx hb dX5_log_89 (by decide) ?_
            refine lv_istore (lv' := [(6, .int 0), (5, .int 1), (0, .ref a_z), (1, .int x1_L35), (2, .int x2_L35), (3, .int x3_L35), (4, .int x4_L35)]) hx hb dX5_log_90 hl (by decide) rfl (fun ls hl => ?_)
            obtain ⟨t44, t45, hk47, h⟩ := bd2_e h
            refine L92 x1_L35 x2_L35 x3_L35 x4_L35 z_refused_L35 g 1 0 (upd z_m_23 r41.toNatClampNeg x4_L35) t44 t45 H locs ls hk47 hP hS (lv_sub hl [2, 3, 4, 5, 6, 1, 0] rfl) (fun H locs ls hP hS hl => ?_)
            refine lv_iload_n hx hb dX5_log_141 rfl (lv_at hl 3 rfl) ?_
            refine lv_iload hx hb dX5_log_142 (lv_at hl 5 rfl) ?_
            refine lv_if_eq (tgt := 154) hx hb dX5_log_144 (by decide) (fun hc46 => ?_) (fun hc46 => ?_)
            · have h := it_p hc46 h
              refine lv_iconst (v := 0) hx hb dX5_log_154 (by decide) ?_
              refine lv_ior hx hb dX5_log_155 ?_
              refine lv_istore_n (lv' := [(3, .int (x3_L35 ||| 0)), (0, .ref a_z), (1, .int x1_L35), (2, .int x2_L35), (4, .int x4_L35), (5, .int t44)]) hx hb dX5_log_156 rfl hl (by decide) rfl (fun ls hl => ?_)
              refine lv_iinc (v := x4_L35 + 1) (lv' := [(4, .int (x4_L35 + 1)), (3, .int (x3_L35 ||| 0)), (0, .ref a_z), (1, .int x1_L35), (2, .int x2_L35), (5, .int t44)]) hx hb dX5_log_157 hl (k := 4) rfl rfl (by decide) rfl (fun ls hl => ?_)
              refine lv_goto (tgt := 35) hx hb dX5_log_160 (by decide) ?_
              exact ih (x3_L35 ||| 0) (x4_L35 + 1) t45 tt0 tt1 H locs ls h hP hS (lv_sub hl [2, 3, 4, 1, 0] rfl) kE
            · have h := it_n hc46 h
              refine lv_iconst (v := 1) hx hb dX5_log_147 (by decide) ?_
              refine lv_iload hx hb dX5_log_148 (lv_at hl 4 rfl) ?_
              refine lv_ishl hx hb dX5_log_150 ?_
              refine lv_goto (tgt := 155) hx hb dX5_log_151 (by decide) ?_
              refine lv_ior hx hb dX5_log_155 ?_
              refine lv_istore_n (lv' := [(3, .int (x3_L35 ||| (1 <<< (x4_L35 &&& 31)))), (0, .ref a_z), (1, .int x1_L35), (2, .int x2_L35), (4, .int x4_L35), (5, .int t44)]) hx hb dX5_log_156 rfl hl (by decide) rfl (fun ls hl => ?_)
              refine lv_iinc (v := x4_L35 + 1) (lv' := [(4, .int (x4_L35 + 1)), (3, .int (x3_L35 ||| (1 <<< (x4_L35 &&& 31)))), (0, .ref a_z), (1, .int x1_L35), (2, .int x2_L35), (5, .int t44)]) hx hb dX5_log_157 hl (k := 4) rfl rfl (by decide) rfl (fun ls hl => ?_)
              refine lv_goto (tgt := 35) hx hb dX5_log_160 (by decide) ?_
              exact ih (x3_L35 ||| (1 <<< (x4_L35 &&& 31))) (x4_L35 + 1) t45 tt0 tt1 H locs ls h hP hS (lv_sub hl [2, 3, 4, 1, 0] rfl) kE
      · have h := it_p hc21 h
        refine lv_aload_n hx hb dX5_log_41 rfl (lv_at hl 0 rfl) ?_
        refine gt_X5_9 F iX5 (List.mem_cons_of_mem _ (List.mem_append_left _ (List.mem_append_left _ (List.mem_of_getElem? (i := 0) rfl)))) hP 0 rfl dX5_log_42 ?_
        refine lv_iconst (v := 0) hx hb dX5_log_45 (by decide) ?_
        refine r_ia F hP 1 rfl (j := 0) rfl (by decide) dX5_log_46 ?_
        refine lv_goto (tgt := 52) hx hb dX5_log_47 (by decide) ?_
        refine lv_icmp_ge (tgt := 163) hx hb dX5_log_52 (by decide) (fun hc49 => ?_) (fun hc49 => ?_)
        · have h := it_p hc49 h
          cases h
          exact kE H locs ls hP hS (lv_sub hl [3] rfl)
        · have h := it_n hc49 h
          refine lv_iconst (v := 1) hx hb dX5_log_55 (by decide) ?_
          refine lv_istore (lv' := [(5, .int 1), (0, .ref a_z), (1, .int x1_L35), (2, .int x2_L35), (3, .int x3_L35), (4, .int x4_L35)]) hx hb dX5_log_56 hl (by decide) rfl (fun ls hl => ?_)
          refine lv_aload_n hx hb dX5_log_58 rfl (lv_at hl 1 rfl) ?_
          refine gt_X5_9 F iX5 (List.mem_cons_of_mem _ (List.mem_append_left _ (List.mem_append_left _ (List.mem_of_getElem? (i := 0) rfl)))) hP 0 rfl dX5_log_59 ?_
          refine lv_aload_n hx hb dX5_log_62 rfl (lv_at hl 1 rfl) ?_
          refine gt_X5_13 F iX5 (List.mem_cons_of_mem _ (List.mem_append_left _ (List.mem_append_left _ (List.mem_of_getElem? (i := 1) rfl)))) hP 0 rfl dX5_log_63 ?_
          obtain ⟨z_m_50, hk51, h⟩ := bd1_e h
          refine cS_v (rest := []) F (kX5_copies l D cI cJ H.size g a_z_s a_z_m z_s z_m_L35 z_m_50 hk51) (va_cwS 2 hts gX5_log_X5_copies rfl rfl rfl eSX5_copies ⟨Nat.le_of_ble_eq_true rfl, Nat.le_of_ble_eq_true rfl⟩) [1, 2] hP hS (by decide) rfl rfl rfl hl.1 (Nat.le_of_ble_eq_true rfl) ⟨Nat.le_refl _, Nat.le_refl _⟩ rfl dX5_log_66 (fun H locs hP hS => ?_)
          have hP : WD D A [(a_z, .inr (5, [.ref a_z_s, .ref a_z_m, .ref a_z_image, .ref a_z_was, .int z_hasImage, .ref a_z_letters, .ref a_z_row, .ref a_z_refused, .int z_letterMany, .int z_rowMany, .int z_reading, .ref a_z_numbers, .int z_seed])), (a_z_s, .inl (cI, 45, .inl z_s)), (a_z_m, .inl (cI, 45, .inl z_m_50)), (a_z_row, .inl (cI, 16, .inl z_row)), (a_z_refused, .inl (cI, 7, .inl z_refused_L35))] H := hP
          refine lv_aload_n hx hb dX5_log_69 rfl (lv_at hl 1 rfl) ?_
          refine gt_X5_13 F iX5 (List.mem_cons_of_mem _ (List.mem_append_left _ (List.mem_append_left _ (List.mem_of_getElem? (i := 1) rfl)))) hP 0 rfl dX5_log_70 ?_
          refine lv_iload_n hx hb dX5_log_73 rfl (lv_at hl 2 rfl) ?_
          refine lv_iload_n hx hb dX5_log_74 rfl (lv_at hl 3 rfl) ?_
          refine lv_if_ne (tgt := 82) hx hb dX5_log_75 (by decide) (fun hc52 => ?_) (fun hc52 => ?_)
          · have h := it_n hc52 h
            refine lv_iconst (v := 0) hx hb dX5_log_82 (by decide) ?_
            obtain ⟨r53, hk54, h⟩ := bd1_e h
            refine cS_i (rest := [.ref a_z_m]) F (kX5_of l D cI cJ H.size g x1_L35 0 r53 hk54) (va_cwS 2 hts gX5_log_X5_of rfl rfl rfl eSX5_of ⟨Nat.le_of_ble_eq_true rfl, Nat.le_of_ble_eq_true rfl⟩) [] hP hS (by decide) rfl rfl rfl hl.1 (Nat.le_of_ble_eq_true rfl) ⟨Nat.le_refl _, Nat.le_refl _⟩ rfl dX5_log_83 (fun H locs hP hS => ?_)
            have hP : WD D A [(a_z, .inr (5, [.ref a_z_s, .ref a_z_m, .ref a_z_image, .ref a_z_was, .int z_hasImage, .ref a_z_letters, .ref a_z_row, .ref a_z_refused, .int z_letterMany, .int z_rowMany, .int z_reading, .ref a_z_numbers, .int z_seed])), (a_z_s, .inl (cI, 45, .inl z_s)), (a_z_m, .inl (cI, 45, .inl z_m_50)), (a_z_row, .inl (cI, 16, .inl z_row)), (a_z_refused, .inl (cI, 7, .inl z_refused_L35))] H := hP
            refine lv_iload hx hb dX5_log_86 (lv_at hl 5 rfl) ?_
            obtain ⟨hg55, h⟩ := gd_e h
            refine r_is F hP hS 2 rfl rfl hg55 dX5_log_88 (fun H locs hP hS => ?_)
            have hP : WD D A [(a_z, .inr (5, [.ref a_z_s, .ref a_z_m, .ref a_z_image, .ref a_z_was, .int z_hasImage, .ref a_z_letters, .ref a_z_row, .ref a_z_refused, .int z_letterMany, .int z_rowMany, .int z_reading, .ref a_z_numbers, .int z_seed])), (a_z_s, .inl (cI, 45, .inl z_s)), (a_z_m, .inl (cI, 45, .inl (upd z_m_50 r53.toNatClampNeg x4_L35))), (a_z_row, .inl (cI, 16, .inl z_row)), (a_z_refused, .inl (cI, 7, .inl z_refused_L35))] H := hP
            refine lv_iconst (v := 0) hx hb dX5_log_89 (by decide) ?_
            refine lv_istore (lv' := [(6, .int 0), (5, .int 1), (0, .ref a_z), (1, .int x1_L35), (2, .int x2_L35), (3, .int x3_L35), (4, .int x4_L35)]) hx hb dX5_log_90 hl (by decide) rfl (fun ls hl => ?_)
            obtain ⟨t56, t57, hk59, h⟩ := bd2_e h
            refine L92 x1_L35 x2_L35 x3_L35 x4_L35 z_refused_L35 g 1 0 (upd z_m_50 r53.toNatClampNeg x4_L35) t56 t57 H locs ls hk59 hP hS (lv_sub hl [2, 3, 4, 5, 6, 1, 0] rfl) (fun H locs ls hP hS hl => ?_)
            refine lv_iload_n hx hb dX5_log_141 rfl (lv_at hl 3 rfl) ?_
            refine lv_iload hx hb dX5_log_142 (lv_at hl 5 rfl) ?_
            refine lv_if_eq (tgt := 154) hx hb dX5_log_144 (by decide) (fun hc58 => ?_) (fun hc58 => ?_)
            · have h := it_p hc58 h
              refine lv_iconst (v := 0) hx hb dX5_log_154 (by decide) ?_
              refine lv_ior hx hb dX5_log_155 ?_
              refine lv_istore_n (lv' := [(3, .int (x3_L35 ||| 0)), (0, .ref a_z), (1, .int x1_L35), (2, .int x2_L35), (4, .int x4_L35), (5, .int t56)]) hx hb dX5_log_156 rfl hl (by decide) rfl (fun ls hl => ?_)
              refine lv_iinc (v := x4_L35 + 1) (lv' := [(4, .int (x4_L35 + 1)), (3, .int (x3_L35 ||| 0)), (0, .ref a_z), (1, .int x1_L35), (2, .int x2_L35), (5, .int t56)]) hx hb dX5_log_157 hl (k := 4) rfl rfl (by decide) rfl (fun ls hl => ?_)
              refine lv_goto (tgt := 35) hx hb dX5_log_160 (by decide) ?_
              exact ih (x3_L35 ||| 0) (x4_L35 + 1) t57 tt0 tt1 H locs ls h hP hS (lv_sub hl [2, 3, 4, 1, 0] rfl) kE
            · have h := it_n hc58 h
              refine lv_iconst (v := 1) hx hb dX5_log_147 (by decide) ?_
              refine lv_iload hx hb dX5_log_148 (lv_at hl 4 rfl) ?_
              refine lv_ishl hx hb dX5_log_150 ?_
              refine lv_goto (tgt := 155) hx hb dX5_log_151 (by decide) ?_
              refine lv_ior hx hb dX5_log_155 ?_
              refine lv_istore_n (lv' := [(3, .int (x3_L35 ||| (1 <<< (x4_L35 &&& 31)))), (0, .ref a_z), (1, .int x1_L35), (2, .int x2_L35), (4, .int x4_L35), (5, .int t56)]) hx hb dX5_log_156 rfl hl (by decide) rfl (fun ls hl => ?_)
              refine lv_iinc (v := x4_L35 + 1) (lv' := [(4, .int (x4_L35 + 1)), (3, .int (x3_L35 ||| (1 <<< (x4_L35 &&& 31)))), (0, .ref a_z), (1, .int x1_L35), (2, .int x2_L35), (5, .int t56)]) hx hb dX5_log_157 hl (k := 4) rfl rfl (by decide) rfl (fun ls hl => ?_)
              refine lv_goto (tgt := 35) hx hb dX5_log_160 (by decide) ?_
              exact ih (x3_L35 ||| (1 <<< (x4_L35 &&& 31))) (x4_L35 + 1) t57 tt0 tt1 H locs ls h hP hS (lv_sub hl [2, 3, 4, 1, 0] rfl) kE
          · have h := it_p hc52 h
            refine lv_iconst (v := 2) hx hb dX5_log_78 (by decide) ?_
            refine lv_goto (tgt := 83) hx hb dX5_log_79 (by decide) ?_
            obtain ⟨r61, hk62, h⟩ := bd1_e h
            refine cS_i (rest := [.ref a_z_m]) F (kX5_of l D cI cJ H.size g x1_L35 2 r61 hk62) (va_cwS 2 hts gX5_log_X5_of rfl rfl rfl eSX5_of ⟨Nat.le_of_ble_eq_true rfl, Nat.le_of_ble_eq_true rfl⟩) [] hP hS (by decide) rfl rfl rfl hl.1 (Nat.le_of_ble_eq_true rfl) ⟨Nat.le_refl _, Nat.le_refl _⟩ rfl dX5_log_83 (fun H locs hP hS => ?_)
            have hP : WD D A [(a_z, .inr (5, [.ref a_z_s, .ref a_z_m, .ref a_z_image, .ref a_z_was, .int z_hasImage, .ref a_z_letters, .ref a_z_row, .ref a_z_refused, .int z_letterMany, .int z_rowMany, .int z_reading, .ref a_z_numbers, .int z_seed])), (a_z_s, .inl (cI, 45, .inl z_s)), (a_z_m, .inl (cI, 45, .inl z_m_50)), (a_z_row, .inl (cI, 16, .inl z_row)), (a_z_refused, .inl (cI, 7, .inl z_refused_L35))] H := hP
            refine lv_iload hx hb dX5_log_86 (lv_at hl 5 rfl) ?_
            obtain ⟨hg63, h⟩ := gd_e h
            refine r_is F hP hS 2 rfl rfl hg63 dX5_log_88 (fun H locs hP hS => ?_)
            have hP : WD D A [(a_z, .inr (5, [.ref a_z_s, .ref a_z_m, .ref a_z_image, .ref a_z_was, .int z_hasImage, .ref a_z_letters, .ref a_z_row, .ref a_z_refused, .int z_letterMany, .int z_rowMany, .int z_reading, .ref a_z_numbers, .int z_seed])), (a_z_s, .inl (cI, 45, .inl z_s)), (a_z_m, .inl (cI, 45, .inl (upd z_m_50 r61.toNatClampNeg x4_L35))), (a_z_row, .inl (cI, 16, .inl z_row)), (a_z_refused, .inl (cI, 7, .inl z_refused_L35))] H := hP
            refine lv_iconst (v := 0) hx hb dX5_log_89 (by decide) ?_
            refine lv_istore (lv' := [(6, .int 0), (5, .int 1), (0, .ref a_z), (1, .int x1_L35), (2, .int x2_L35), (3, .int x3_L35), (4, .int x4_L35)]) hx hb dX5_log_90 hl (by decide) rfl (fun ls hl => ?_)
            obtain ⟨t64, t65, hk67, h⟩ := bd2_e h
            refine L92 x1_L35 x2_L35 x3_L35 x4_L35 z_refused_L35 g 1 0 (upd z_m_50 r61.toNatClampNeg x4_L35) t64 t65 H locs ls hk67 hP hS (lv_sub hl [2, 3, 4, 5, 6, 1, 0] rfl) (fun H locs ls hP hS hl => ?_)
            refine lv_iload_n hx hb dX5_log_141 rfl (lv_at hl 3 rfl) ?_
            refine lv_iload hx hb dX5_log_142 (lv_at hl 5 rfl) ?_
            refine lv_if_eq (tgt := 154) hx hb dX5_log_144 (by decide) (fun hc66 => ?_) (fun hc66 => ?_)
            · have h := it_p hc66 h
              refine lv_iconst (v := 0) hx hb dX5_log_154 (by decide) ?_
              refine lv_ior hx hb dX5_log_155 ?_
              refine lv_istore_n (lv' := [(3, .int (x3_L35 ||| 0)), (0, .ref a_z), (1, .int x1_L35), (2, .int x2_L35), (4, .int x4_L35), (5, .int t64)]) hx hb dX5_log_156 rfl hl (by decide) rfl (fun ls hl => ?_)
              refine lv_iinc (v := x4_L35 + 1) (lv' := [(4, .int (x4_L35 + 1)), (3, .int (x3_L35 ||| 0)), (0, .ref a_z), (1, .int x1_L35), (2, .int x2_L35), (5, .int t64)]) hx hb dX5_log_157 hl (k := 4) rfl rfl (by decide) rfl (fun ls hl => ?_)
              refine lv_goto (tgt := 35) hx hb dX5_log_160 (by decide) ?_
              exact ih (x3_L35 ||| 0) (x4_L35 + 1) t65 tt0 tt1 H locs ls h hP hS (lv_sub hl [2, 3, 4, 1, 0] rfl) kE
            · have h := it_n hc66 h
              refine lv_iconst (v := 1) hx hb dX5_log_147 (by decide) ?_
              refine lv_iload hx hb dX5_log_148 (lv_at hl 4 rfl) ?_
              refine lv_ishl hx hb dX5_log_150 ?_
              refine lv_goto (tgt := 155) hx hb dX5_log_151 (by decide) ?_
              refine lv_ior hx hb dX5_log_155 ?_
              refine lv_istore_n (lv' := [(3, .int (x3_L35 ||| (1 <<< (x4_L35 &&& 31)))), (0, .ref a_z), (1, .int x1_L35), (2, .int x2_L35), (4, .int x4_L35), (5, .int t64)]) hx hb dX5_log_156 rfl hl (by decide) rfl (fun ls hl => ?_)
              refine lv_iinc (v := x4_L35 + 1) (lv' := [(4, .int (x4_L35 + 1)), (3, .int (x3_L35 ||| (1 <<< (x4_L35 &&& 31)))), (0, .ref a_z), (1, .int x1_L35), (2, .int x2_L35), (5, .int t64)]) hx hb dX5_log_157 hl (k := 4) rfl rfl (by decide) rfl (fun ls hl => ?_)
              refine lv_goto (tgt := 35) hx hb dX5_log_160 (by decide) ?_
              exact ih (x3_L35 ||| (1 <<< (x4_L35 &&& 31))) (x4_L35 + 1) t65 tt0 tt1 H locs ls h hP hS (lv_sub hl [2, 3, 4, 1, 0] rfl) kE
  have hl : lv_has ls 7 [(0, .ref a_z), (1, .int p0), (2, .int p1)] := hl
  have h := hf
  unfold fX5_log at h
  refine lv_aload_n hx hb dX5_log_0 rfl (lv_at hl 0 rfl) ?_
  refine lv_iload_n hx hb dX5_log_1 rfl (lv_at hl 1 rfl) ?_
  obtain ⟨r15, hk16, h⟩ := bd1_e h
  refine cV_i (rest := []) F (kX5_isHand l D cI cJ H.size g a_z a_z_s a_z_m a_z_image a_z_was a_z_letters a_z_row a_z_refused a_z_numbers z_hasImage z_letterMany z_rowMany z_reading z_seed z_s p0 r15 hk16) (cwV 1 hts gX5_log_X5_isHand rfl rfl rfl eVX5_isHand ⟨Nat.le_of_ble_eq_true rfl, Nat.le_of_ble_eq_true rfl⟩) [0, 1] hP hS (by decide) rfl rfl 0 rfl rfl rfl hl.1 (Nat.le_of_ble_eq_true rfl) ⟨Nat.le_refl _, Nat.le_refl _⟩ rfl dX5_log_2 (fun H locs hP hS => ?_)
  have hP : WD D A [(a_z, .inr (5, [.ref a_z_s, .ref a_z_m, .ref a_z_image, .ref a_z_was, .int z_hasImage, .ref a_z_letters, .ref a_z_row, .ref a_z_refused, .int z_letterMany, .int z_rowMany, .int z_reading, .ref a_z_numbers, .int z_seed])), (a_z_s, .inl (cI, 45, .inl z_s)), (a_z_m, .inl (cI, 45, .inl z_m)), (a_z_row, .inl (cI, 16, .inl z_row)), (a_z_refused, .inl (cI, 7, .inl z_refused))] H := hP
  refine lv_if_ne (tgt := 14) hx hb dX5_log_5 (by decide) (fun hc17 => ?_) (fun hc17 => ?_)
  · have h := it_n hc17 h
    refine lv_iload_n hx hb dX5_log_14 rfl (lv_at hl 2 rfl) ?_
    refine lv_iconst (v := 0) hx hb dX5_log_15 (by decide) ?_
    refine lv_iconst (v := 1) hx hb dX5_log_16 (by decide) ?_
    obtain ⟨r18, hk19, h⟩ := bd1_e h
    refine cS_i (rest := []) F (kX5_isIn l D cI cJ H.size g p1 0 1 r18 hk19) (va_cwS 3 hts gX5_log_X5_isIn rfl rfl rfl eSX5_isIn ⟨Nat.le_of_ble_eq_true rfl, Nat.le_of_ble_eq_true rfl⟩) [] hP hS (by decide) rfl rfl rfl hl.1 (Nat.le_of_ble_eq_true rfl) ⟨Nat.le_refl _, Nat.le_refl _⟩ rfl dX5_log_17 (fun H locs hP hS => ?_)
    have hP : WD D A [(a_z, .inr (5, [.ref a_z_s, .ref a_z_m, .ref a_z_image, .ref a_z_was, .int z_hasImage, .ref a_z_letters, .ref a_z_row, .ref a_z_refused, .int z_letterMany, .int z_rowMany, .int z_reading, .ref a_z_numbers, .int z_seed])), (a_z_s, .inl (cI, 45, .inl z_s)), (a_z_m, .inl (cI, 45, .inl z_m)), (a_z_row, .inl (cI, 16, .inl z_row)), (a_z_refused, .inl (cI, 7, .inl z_refused))] H := hP
    refine lv_if_ne (tgt := 30) hx hb dX5_log_20 (by decide) (fun hc20 => ?_) (fun hc20 => ?_)
    · have h := it_n hc20 h
      refine lv_iconst (v := 0) hx hb dX5_log_30 (by decide) ?_
      refine lv_istore_n (lv' := [(3, .int 0), (0, .ref a_z), (1, .int p0), (2, .int p1)]) hx hb dX5_log_31 rfl hl (by decide) rfl (fun ls hl => ?_)
      refine lv_iconst (v := 0) hx hb dX5_log_32 (by decide) ?_
      refine lv_istore (lv' := [(4, .int 0), (3, .int 0), (0, .ref a_z), (1, .int p0), (2, .int p1)]) hx hb dX5_log_33 hl (by decide) rfl (fun ls hl => ?_)
      obtain ⟨t69, t70, hk71, h⟩ := bd2_e h
      refine L35 p0 p1 z_refused g 0 0 z_m t69 t70 H locs ls hk71 hP hS (lv_sub hl [2, 3, 4, 1, 0] rfl) (fun H locs ls hP hS hl => ?_)
      refine lv_iload_n hx hb dX5_log_163 rfl (lv_at hl 0 rfl) ?_
      exact hret 164 H locs ls t69 t70 z_refused h rfl dX5_log_164 hP hS
    · have h := it_p hc20 h
      refine lv_aload_n hx hb dX5_log_23 rfl (lv_at hl 0 rfl) ?_
      refine lv_bipush (v := (-2)) hx hb dX5_log_24 (by decide) ?_
      obtain ⟨r73, z_refused_74, hk75, h⟩ := bd2_e h
      refine cV_i (rest := []) F (kX5_no l D cI cJ H.size g a_z a_z_s a_z_m a_z_image a_z_was a_z_letters a_z_row a_z_refused a_z_numbers z_hasImage z_letterMany z_rowMany z_reading z_seed z_refused (-2) r73 z_refused_74 hk75) (cwV 1 hts gX5_log_X5_no rfl rfl rfl eVX5_no ⟨Nat.le_of_ble_eq_true rfl, Nat.le_of_ble_eq_true rfl⟩) [0, 4] hP hS (by decide) rfl rfl 0 rfl rfl rfl hl.1 (Nat.le_of_ble_eq_true rfl) ⟨Nat.le_refl _, Nat.le_refl _⟩ rfl dX5_log_26 (fun H locs hP hS => ?_)
      have hP : WD D A [(a_z, .inr (5, [.ref a_z_s, .ref a_z_m, .ref a_z_image, .ref a_z_was, .int z_hasImage, .ref a_z_letters, .ref a_z_row, .ref a_z_refused, .int z_letterMany, .int z_rowMany, .int z_reading, .ref a_z_numbers, .int z_seed])), (a_z_s, .inl (cI, 45, .inl z_s)), (a_z_m, .inl (cI, 45, .inl z_m)), (a_z_row, .inl (cI, 16, .inl z_row)), (a_z_refused, .inl (cI, 7, .inl z_refused_74))] H := hP
      exact hret 29 H locs ls r73 z_m z_refused_74 h rfl dX5_log_29 hP hS
  · have h := it_p hc17 h
    refine lv_aload_n hx hb dX5_log_8 rfl (lv_at hl 0 rfl) ?_
    refine lv_iconst (v := (-1)) hx hb dX5_log_9 (by decide) ?_
    obtain ⟨r76, z_refused_77, hk78, h⟩ := bd2_e h
    refine cV_i (rest := []) F (kX5_no l D cI cJ H.size g a_z a_z_s a_z_m a_z_image a_z_was a_z_letters a_z_row a_z_refused a_z_numbers z_hasImage z_letterMany z_rowMany z_reading z_seed z_refused (-1) r76 z_refused_77 hk78) (cwV 1 hts gX5_log_X5_no rfl rfl rfl eVX5_no ⟨Nat.le_of_ble_eq_true rfl, Nat.le_of_ble_eq_true rfl⟩) [0, 4] hP hS (by decide) rfl rfl 0 rfl rfl rfl hl.1 (Nat.le_of_ble_eq_true rfl) ⟨Nat.le_refl _, Nat.le_refl _⟩ rfl dX5_log_10 (fun H locs hP hS => ?_)
    have hP : WD D A [(a_z, .inr (5, [.ref a_z_s, .ref a_z_m, .ref a_z_image, .ref a_z_was, .int z_hasImage, .ref a_z_letters, .ref a_z_row, .ref a_z_refused, .int z_letterMany, .int z_rowMany, .int z_reading, .ref a_z_numbers, .int z_seed])), (a_z_s, .inl (cI, 45, .inl z_s)), (a_z_m, .inl (cI, 45, .inl z_m)), (a_z_row, .inl (cI, 16, .inl z_row)), (a_z_refused, .inl (cI, 7, .inl z_refused_77))] H := hP
    exact hret 13 H locs ls r76 z_m z_refused_77 h rfl dX5_log_13 hP hS
