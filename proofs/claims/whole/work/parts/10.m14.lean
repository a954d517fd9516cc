theorem eSX5_day : yX5_day.cls ≠ "java/lang/invoke/MethodHandle" ∧ yX5_day.cls ≠ "java/lang/invoke/VarHandle" ∧ (parseMethodDescriptor yX5_day.desc).map (fun d => d.parameters.length) = some 2 := by decide +kernel
theorem eVX5_day : yX5_day.cls = RX5 ∧ yX5_day.cls ≠ "java/lang/invoke/MethodHandle" ∧ yX5_day.cls ≠ "java/lang/invoke/VarHandle" ∧ (parseMethodDescriptor yX5_day.desc).map (fun d => d.parameters.length) = some 2 := ⟨rfl, eSX5_day⟩
abbrev rmX5_day : Room := { frames := 5, cells := 0, slots := 0, locals := 112 }
def fX5_day_L28_b (g : Nat) (self : Int32 → (Nat → Int32) → Option ((Nat → Int32))) (x2_L28 : Int32) (q0_L28 : Nat → Int32) : Option ((Nat → Int32)) := if (q0_L28 1) ≤ x2_L28 then (some q0_L28) else (bd1 (fX5_of g x2_L28 3) fun r10 => (gd (inB r10 45) (bd1 (fX5_isAboard g x2_L28 q0_L28) fun r13 => (if r13 = 0 then (bd1 (fX5_of g x2_L28 3) fun r16 => (if 0 ≤ ((q0_L28 r10.toNatClampNeg) + (-1)) then (if ((q0_L28 r10.toNatClampNeg) + (-1)) ≤ 99 then (gd (inB r16 45) (self (x2_L28 + 1) (upd q0_L28 r16.toNatClampNeg ((q0_L28 r10.toNatClampNeg) + (-1))))) else (gd (inB r16 45) (self (x2_L28 + 1) (upd q0_L28 r16.toNatClampNeg 99)))) else (gd (inB r16 45) (self (x2_L28 + 1) (upd q0_L28 r16.toNatClampNeg 0))))) else (bd1 (fX5_of g x2_L28 3) fun r23 => (if 0 ≤ ((q0_L28 r10.toNatClampNeg) + 1) then (if ((q0_L28 r10.toNatClampNeg) + 1) ≤ 99 then (gd (inB r23 45) (self (x2_L28 + 1) (upd q0_L28 r23.toNatClampNeg ((q0_L28 r10.toNatClampNeg) + 1)))) else (gd (inB r23 45) (self (x2_L28 + 1) (upd q0_L28 r23.toNatClampNeg 99)))) else (gd (inB r23 45) (self (x2_L28 + 1) (upd q0_L28 r23.toNatClampNeg 0)))))))))
def fX5_day_L28 (g : Nat) (n : Nat) : Int32 → (Nat → Int32) → Option ((Nat → Int32)) := lp (fX5_day_L28_b g) (fun _ _ => none) n
def fX5_day (g : Nat) (p1 : Int32) (q0 : Nat → Int32) : Option ((Nat → Int32)) := if p1 = 0 then (bd1 (fX5_needleIn g (-9) (upd q0 2 ((q0 2) + 1))) fun r33 => (bd1 (fX5_wayFrom g ((upd q0 2 ((q0 2) + 1)) 3) r33) fun r35 => (bd1 (fX5_day_L28 g g 0 (upd (upd q0 2 ((q0 2) + 1)) 3 r35)) fun t37 => (some t37)))) else (bd1 (fX5_day_L28 g g 0 (upd q0 2 ((q0 2) + 1))) fun t30 => (some t30))
set_option maxHeartbeats 4000000 in
set_option maxRecDepth 100000 in
theorem kX5_day (l : Launch) (D : va_G) (cI cJ : ClassId) (sz g : Nat) (a_q0 : Nat) (q0 : Nat → Int32) (p1 : Int32) (n_q0 : Nat → Int32) (hf : fX5_day g p1 q0 = some n_q0) : Met l yX5_day wsX5_day rmX5_day (va_Pc [.ref a_q0, .int p1] (sPc D (tyL cI cJ) [(a_q0, .inl (cI, 45, .inl q0))] sz)) (qV D (tyL cI cJ) [(a_q0, .inl (cI, 45, .inl q0))] sz [(a_q0, .inl (cI, 45, .inl n_q0))]) 0 0 (va_A [(a_q0, .inl (cI, 45, .inl q0))] sz) := by
  refine st_v (cc := cX5_day) (maxL := 4) (by decide) rfl (Nat.le_of_ble_eq_true rfl) ?_
  intro p e s m args below meth c A Q F hret0 H locs hP hS ls hl
  have F : Cx p s m args c cX5_day 4 wsX5_day RX5 D (tyL cI cJ) A := F
  have hx := F.1.1
  have hb := F.1.2.1
  have hown := F.1.2.2.2.1
  have hts := F.1.2.2.2.2
  have hret : ∀ (pc : Nat) (H : Heap) (locs : List Loc) (ls : Array Slot) (m_q0 : Nat → Int32), some m_q0 = some n_q0 → decode cX5_day pc = .ok (.return_, 1) → WD D A [(a_q0, .inl (cI, 45, .inl m_q0))] H → va_S A s.heap H locs → W p l e rmX5_day s m args below meth c H locs 0 0 Q (F0 m pc ls []) := by
    intro pc H locs ls m_q0 h hd hP hS
    cases h
    exact hret0 pc H locs ls hd hP hS
  have L28 : ∀ (n : Nat) (x2_L28 : Int32) (q0_L28 : Nat → Int32) (tt0 : Nat → Int32) (H : Heap) (locs : List Loc) (ls : Array Slot), fX5_day_L28 g n x2_L28 q0_L28 = some tt0 → WD D A [(a_q0, .inl (cI, 45, .inl q0_L28))] H → va_S A s.heap H locs → lv_has ls 4 [(0, .ref a_q0), (2, .int x2_L28)] → (∀ (H : Heap) (locs : List Loc) (ls : Array Slot), WD D A [(a_q0, .inl (cI, 45, .inl tt0))] H → va_S A s.heap H locs → lv_has ls 4 [] → W p l e rmX5_day s m args below meth c H locs 0 0 Q (F0 m 90 ls [])) → W p l e rmX5_day s m args below meth c H locs 0 0 Q (F0 m 28 ls []) := by
    intro n
    induction n with
    | zero =>
      intro x2_L28 q0_L28 tt0 H locs ls h
      exact (no_some h).elim
    | succ n ih =>
      intro x2_L28 q0_L28 tt0 H locs ls h hP hS hl kE
      have h : fX5_day_L28_b g (fX5_day_L28 g n) x2_L28 q0_L28 = some tt0 := h
      unfold fX5_day_L28_b at h
      refine lv_iload_n hx hb dX5_day_28 rfl (lv_at hl 1 rfl) ?_
      refine lv_aload_n hx hb dX5_day_29 rfl (lv_at hl 0 rfl) ?_
      refine lv_iconst (v := 1) hx hb dX5_day_30 (by decide) ?_
      refine r_ia F hP 0 rfl (j := 1) rfl (by decide) dX5_day_31 ?_
      refine lv_icmp_ge (tgt := 90) hx hb dX5_day_32 (by decide) (fun hc9 => ?_) (fun hc9 => ?_)
      · have h := it_p hc9 h
        cases h
        exact kE H locs ls hP hS (lv_sub hl [] rfl)
      · have h := it_n hc9 h
        refine lv_aload_n hx hb dX5_day_35 rfl (lv_at hl 0 rfl) ?_
        refine lv_iload_n hx hb dX5_day_36 rfl (lv_at hl 1 rfl) ?_
        refine lv_iconst (v := 3) hx hb dX5_day_37 (by decide) ?_
        obtain ⟨r10, hk11, h⟩ := bd1_e h
        refine cS_i (rest := [.ref a_q0]) F (kX5_of l D cI cJ H.size g x2_L28 3 r10 hk11) (va_cwS 2 hts gX5_day_X5_of rfl rfl rfl eSX5_of ⟨Nat.le_of_ble_eq_true rfl, Nat.le_of_ble_eq_true rfl⟩) [] hP hS (by decide) rfl rfl rfl hl.1 (Nat.le_of_ble_eq_true rfl) ⟨Nat.le_refl _, Nat.le_refl _⟩ rfl dX5_day_38 (fun H locs hP hS => ?_)
        have hP : WD D A [(a_q0, .inl (cI, 45, .inl q0_L28))] H := hP
        obtain ⟨hg12, h⟩ := gd_e h
        refine r_ia F hP 0 rfl rfl hg12 dX5_day_41 ?_
        refine lv_aload_n hx hb dX5_day_42 rfl (lv_at hl 0 rfl) ?_
        refine lv_iload_n hx hb dX5_day_43 rfl (lv_at hl 1 rfl) ?_
        obtain ⟨r13, hk14, h⟩ := bd1_e h
        refine cS_i (rest := [.int (q0_L28 r10.toNatClampNeg)]) F (kX5_isAboard l D cI cJ H.size g a_q0 q0_L28 x2_L28 r13 hk14) (va_cwS 2 hts gX5_day_X5_isAboard rfl rfl rfl eSX5_isAboard ⟨Nat.le_of_ble_eq_true rfl, Nat.le_of_ble_eq_true rfl⟩) [0] hP hS (by decide) rfl rfl rfl hl.1 (Nat.le_of_ble_eq_true rfl) ⟨Nat.le_refl _, Nat.le_refl _⟩ rfl dX5_day_44 (fun H locs hP hS => ?_)
        have hP : WD D A [(a_q0, .inl (cI, 45, .inl q0_L28))] H := hP
        refine lv_if_eq (tgt := 54) hx hb dX5_day_47 (by decide) (fun hc15 => ?_) (fun hc15 => ?_)
        · have h := it_p hc15 h
          refine lv_iconst (v := (-1)) hx hb dX5_day_54 (by decide) ?_
          refine lv_iadd hx hb dX5_day_55 ?_
          refine lv_istore_n (lv' := [(3, .int ((q0_L28 r10.toNatClampNeg) + (-1))), (0, .ref a_q0), (2, .int x2_L28)]) hx hb dX5_day_56 rfl hl (by decide) rfl (fun ls hl => ?_)
          refine lv_aload_n hx hb dX5_day_57 rfl (lv_at hl 1 rfl) ?_
          refine lv_iload_n hx hb dX5_day_58 rfl (lv_at hl 2 rfl) ?_
          refine lv_iconst (v := 3) hx hb dX5_day_59 (by decide) ?_
          obtain ⟨r16, hk17, h⟩ := bd1_e h
          refine cS_i (rest := [.ref a_q0]) F (kX5_of l D cI cJ H.size g x2_L28 3 r16 hk17) (va_cwS 2 hts gX5_day_X5_of rfl rfl rfl eSX5_of ⟨Nat.le_of_ble_eq_true rfl, Nat.le_of_ble_eq_true rfl⟩) [] hP hS (by decide) rfl rfl rfl hl.1 (Nat.le_of_ble_eq_true rfl) ⟨Nat.le_refl _, Nat.le_refl _⟩ rfl dX5_day_60 (fun H locs hP hS => ?_)
          have hP : WD D A [(a_q0, .inl (cI, 45, .inl q0_L28))] H := hP
          refine lv_iload_n hx hb dX5_day_63 rfl (lv_at hl 0 rfl) ?_
          refine lv_if_ge (tgt := 71) hx hb dX5_day_64 (by decide) (fun hc18 => ?_) (fun hc18 => ?_)
          · have h := it_p hc18 h
            refine lv_iload_n hx hb dX5_day_71 rfl (lv_at hl 0 rfl) ?_
            refine lv_bipush (v := 99) hx hb dX5_day_72 (by decide) ?_
            refine lv_icmp_le (tgt := 82) hx hb dX5_day_74 (by decide) (fun hc19 => ?_) (fun hc19 => ?_)
            · have h := it_p hc19 h
              refine lv_iload_n hx hb dX5_day_82 rfl (lv_at hl 0 rfl) ?_
              obtain ⟨hg20, h⟩ := gd_e h
              refine r_is F hP hS 0 rfl rfl hg20 dX5_day_83 (fun H locs hP hS => ?_)
              have hP : WD D A [(a_q0, .inl (cI, 45, .inl (upd q0_L28 r16.toNatClampNeg ((q0_L28 r10.toNatClampNeg) + (-1)))))] H := hP
              refine lv_iinc (v := x2_L28 + 1) (lv' := [(2, .int (x2_L28 + 1)), (3, .int ((q0_L28 r10.toNatClampNeg) + (-1))), (0, .ref a_q0)]) hx hb dX5_day_84 hl (k := 2) rfl rfl (by decide) rfl (fun ls hl => ?_)
              refine lv_goto (tgt := 28) hx hb dX5_day_87 (by decide) ?_
              exact ih (x2_L28 + 1) (upd q0_L28 r16.toNatClampNeg ((q0_L28 r10.toNatClampNeg) + (-1))) tt0 H locs ls h hP hS (lv_sub hl [2, 0] rfl) kE
            · have h := it_n hc19 h
              refine lv_bipush (v := 99) hx hb dX5_day_77 (by decide) ?_
              refine lv_goto (tgt := 83) hx hb dX5_day_79 (by decide) ?_
              obtain ⟨hg21, h⟩ := gd_e h
              refine r_is F hP hS 0 rfl rfl hg21 dX5_day_83 (fun H locs hP hS => ?_)
              have hP : WD D A [(a_q0, .inl (cI, 45, .inl (upd q0_L28 r16.toNatClampNeg 99)))] H := hP
              refine lv_iinc (v := x2_L28 + 1) (lv' := [(2, .int (x2_L28 + 1)), (3, .int ((q0_L28 r10.toNatClampNeg) + (-1))), (0, .ref a_q0)]) hx hb dX5_day_84 hl (k := 2) rfl rfl (by decide) rfl (fun ls hl => ?_)
              refine lv_goto (tgt := 28) hx hb dX5_day_87 (by decide) ?_
              exact ih (x2_L28 + 1) (upd q0_L28 r16.toNatClampNeg 99) tt0 H locs ls h hP hS (lv_sub hl [2, 0] rfl) kE
          · have h := it_n hc18 h
            refine lv_iconst (v := 0) hx hb dX5_day_67 (by decide) ?_
            refine lv_goto (tgt := 83) hx hb dX5_day_68 (by decide) ?_
            obtain ⟨hg22, h⟩ := gd_e h
            refine r_is F hP hS 0 rfl rfl hg22 dX5_day_83 (fun H locs hP hS => ?_)
            have hP : WD D A [(a_q0, .inl (cI, 45, .inl (upd q0_L28 r16.toNatClampNeg 0)))] H := hP
            refine lv_iinc (v := x2_L28 + 1) (lv' := [(2, .int (x2_L28 + 1)), (3, .int ((q0_L28 r10.toNatClampNeg) + (-1))), (0, .ref a_q0)]) hx hb dX5_day_84 hl (k := 2) rfl rfl (by decide) rfl (fun ls hl => ?_)
            refine lv_goto (tgt := 28) hx hb dX5_day_87 (by decide) ?_
            exact ih (x2_L28 + 1) (upd q0_L28 r16.toNatClampNeg 0) tt0 H locs ls h hP hS (lv_sub hl [2, 0] rfl) kE
        · have h := it_n hc15 h
          refine lv_iconst (v := 1) hx hb dX5_day_50 (by decide) ?_
          refine lv_goto (tgt := 55) hx hb dX5_day_51 (by decide) ?_
          refine lv_iadd hx hb dX5_day_55 ?_
          refine lv_istore_n (lv' := [(3, .int ((q0_L28 r10.toNatClampNeg) + 1)), (0, .ref a_q0), (2, .int x2_L28)]) hx hb dX5_day_56 rfl hl (by decide) rfl (fun ls hl => ?_)
          refine lv_aload_n hx hb dX5_day_57 rfl (lv_at hl 1 rfl) ?_
          refine lv_iload_n hx hb dX5_day_58 rfl (lv_at hl 2 rfl) ?_
          refine lv_iconst (v := 3) hx hb dX5_day_59 (by decide) ?_
          obtain ⟨r23, hk24, h⟩ := bd1_e h
          refine cS_i (rest := [.ref a_q0]) F (kX5_of l D cI cJ H.size g x2_L28 3 r23 hk24) (va_cwS 2 hts gX5_day_X5_of rfl rfl rfl eSX5_of ⟨Nat.le_of_ble_eq_true rfl, Nat.le_of_ble_eq_true rfl⟩) [] hP hS (by decide) rfl rfl rfl hl.1 (Nat.le_of_ble_eq_true rfl) ⟨Nat.le_refl _, Nat.le_refl _⟩ rfl dX5_day_60 (fun H locs hP hS => ?_)
          have hP : WD D A [(a_q0, .inl (cI, 45, .inl q0_L28))] H := hP
          refine lv_iload_n hx hb dX5_day_63 rfl (lv_at hl 0 rfl) ?_
          refine lv_if_ge (tgt := 71) hx hb dX5_day_64 (by decide) (fun hc25 => ?_) (fun hc25 => ?_)
          · have h := it_p hc25 h
            refine lv_iload_n hx hb dX5_day_71 rfl (lv_at hl 0 rfl) ?_
            refine lv_bipush (v := 99) hx hb dX5_day_72 (by decide) ?_
            refine lv_icmp_le (tgt := 82) hx hb dX5_day_74 (by decide) (fun hc26 => ?_) (fun hc26 => ?_)
            · have h := it_p hc26 h
              refine lv_iload_n hx hb dX5_day_82 rfl (lv_at hl 0 rfl) ?_
              obtain ⟨hg27, h⟩ := gd_e h
              refine r_is F hP hS 0 rfl rfl hg27 dX5_day_83 (fun H locs hP hS => ?_)
              have hP : WD D A [(a_q0, .inl (cI, 45, .inl (upd q0_L28 r23.toNatClampNeg ((q0_L28 r10.toNatClampNeg) + 1))))] H := hP
              refine lv_iinc (v := x2_L28 + 1) (lv' := [(2, .int (x2_L28 + 1)), (3, .int ((q0_L28 r10.toNatClampNeg) + 1)), (0, .ref a_q0)]) hx hb dX5_day_84 hl (k := 2) rfl rfl (by decide) rfl (fun ls hl => ?_)
              refine lv_goto (tgt := 28) hx hb dX5_day_87 (by decide) ?_
              exact ih (x2_L28 + 1) (upd q0_L28 r23.toNatClampNeg ((q0_L28 r10.toNatClampNeg) + 1)) tt0 H locs ls h hP hS (lv_sub hl [2, 0] rfl) kE
            · have h := it_n hc26 h
              refine lv_bipush (v := 99) hx hb dX5_day_77 (by decide) ?_
              refine lv_goto (tgt := 83) hx hb dX5_day_79 (by decide) ?_
              obtain ⟨hg28, h⟩ := gd_e h
              refine r_is F hP hS 0 rfl rfl hg28 dX5_day_83 (fun H locs hP hS => ?_)
              have hP : WD D A [(a_q0, .inl (cI, 45, .inl (upd q0_L28 r23.toNatClampNeg 99)))] H := hP
              refine lv_iinc (v := x2_L28 + 1) (lv' := [(2, .int (x2_L28 + 1)), (3, .int ((q0_L28 r10.toNatClampNeg) + 1)), (0, .ref a_q0)]) hx hb dX5_day_84 hl (k := 2) rfl rfl (by decide) rfl (fun ls hl => ?_)
              refine lv_goto (tgt := 28) hx hb dX5_day_87 (by decide) ?_
              exact ih (x2_L28 + 1) (upd q0_L28 r23.toNatClampNeg 99) tt0 H locs ls h hP hS (lv_sub hl [2, 0] rfl) kE
          · have h := it_n hc25 h
            refine lv_iconst (v := 0) hx hb dX5_day_67 (by decide) ?_
            refine lv_goto (tgt := 83) hx hb dX5_day_68 (by decide) ?_
            obtain ⟨hg29, h⟩ := gd_e h
            refine r_is F hP hS 0 rfl rfl hg29 dX5_day_83 (fun H locs hP hS => ?_)
            have hP : WD D A [(a_q0, .inl (cI, 45, .inl (upd q0_L28 r23.toNatClampNeg 0)))] H := hP
            refine lv_iinc (v := x2_L28 + 1) (lv' := [(2, .int (x2_L28 + 1)), (3, .int ((q0_L28 r10.toNatClampNeg) + 1)), (0, .ref a_q0)]) hx hb dX5_day_84 hl (k := 2) rfl rfl (by decide) rfl (fun ls hl => ?_)
            refine lv_goto (tgt := 28) hx hb dX5_day_87 (by decide) ?_
            exact ih (x2_L28 + 1) (upd q0_L28 r23.toNatClampNeg 0) tt0 H locs ls h hP hS (lv_sub hl [2, 0] rfl) kE
  have hl : lv_has ls 4 [(0, .ref a_q0), (1, .int p1)] := hl
  have h := hf
  unfold fX5_day at h
  refine lv_aload_n hx hb dX5_day_0 rfl (lv_at hl 0 rfl) ?_
  refine lv_iconst (v := 2) hx hb dX5_day_1 (by decide) ?_
  refine lv_dup2_11 hx hb dX5_day_2 rfl rfl ?_
  refine r_ia F hP 0 rfl (j := 2) rfl (by decide) dX5_day_3 ?_
  refine lv_iconst (v := 1) hx hb dX5_day_4 (by decide) ?_
  refine lv_iadd hx hb dX5_day_5 ?_
  refine r_is F hP hS 0 rfl (j := 2) rfl (by decide) dX5_day_6 (fun H locs hP hS => ?_)
  have hP : WD D A [(a_q0, .inl (cI, 45, .inl (upd q0 2 ((q0 2) + 1))))] H := hP
  refine lv_iload_n hx hb dX5_day_7 rfl (lv_at hl 1 rfl) ?_
  refine lv_if_ne (tgt := 26) hx hb dX5_day_8 (by decide) (fun hc8 => ?_) (fun hc8 => ?_)
  · have h := it_n hc8 h
    refine lv_iconst (v := 0) hx hb dX5_day_26 (by decide) ?_
    refine lv_istore_n (lv' := [(2, .int 0), (0, .ref a_q0), (1, .int p1)]) hx hb dX5_day_27 rfl hl (by decide) rfl (fun ls hl => ?_)
    obtain ⟨t30, hk31, h⟩ := bd1_e h
    refine L28 g 0 (upd q0 2 ((q0 2) + 1)) t30 H locs ls hk31 hP hS (lv_sub hl [1, 0] rfl) (fun H locs ls hP hS hl => ?_)
    exact hret 90 H locs ls t30 h dX5_day_90 hP hS
  · have h := it_p hc8 h
    refine lv_aload_n hx hb dX5_day_11 rfl (lv_at hl 0 rfl) ?_
    refine lv_iconst (v := 3) hx hb dX5_day_12 (by decide) ?_
    refine lv_aload_n hx hb dX5_day_13 rfl (lv_at hl 0 rfl) ?_
    refine lv_iconst (v := 3) hx hb dX5_day_14 (by decide) ?_
    refine r_ia F hP 0 rfl (j := 3) rfl (by decide) dX5_day_15 ?_
    refine lv_aload_n hx hb dX5_day_16 rfl (lv_at hl 0 rfl) ?_
    refine lv_bipush (v := (-9)) hx hb dX5_day_17 (by decide) ?_
    obtain ⟨r33, hk34, h⟩ := bd1_e h
    refine cS_i (rest := [.int ((upd q0 2 ((q0 2) + 1)) 3), .int 3, .ref a_q0]) F (kX5_needleIn l D cI cJ H.size g a_q0 (upd q0 2 ((q0 2) + 1)) (-9) r33 hk34) (va_cwS 2 hts gX5_day_X5_needleIn rfl rfl rfl eSX5_needleIn ⟨Nat.le_of_ble_eq_true rfl, Nat.le_of_ble_eq_true rfl⟩) [0] hP hS (by decide) rfl rfl rfl hl.1 (Nat.le_of_ble_eq_true rfl) ⟨Nat.le_refl _, Nat.le_refl _⟩ rfl dX5_day_19 (fun H locs hP hS => ?_)
    have hP : WD D A [(a_q0, .inl (cI, 45, .inl (upd q0 2 ((q0 2) + 1))))] H := hP
    obtain ⟨r35, hk36, h⟩ := bd1_e h
    refine cS_i (rest := [.int 3, .ref a_q0]) F (kX5_wayFrom l D cI cJ H.size g ((upd q0 2 ((q0 2) + 1)) 3) r33 r35 hk36) (va_cwS 2 hts gX5_day_X5_wayFrom rfl rfl rfl eSX5_wayFrom ⟨Nat.le_of_ble_eq_true rfl, Nat.le_of_ble_eq_true rfl⟩) [] hP hS (by decide) rfl rfl rfl hl.1 (Nat.le_of_ble_eq_true rfl) ⟨Nat.le_refl _, Nat.le_refl _⟩ rfl dX5_day_22 (fun H locs hP hS => ?_)
    have hP : WD D A [(a_q0, .inl (cI, 45, .inl (upd q0 2 ((q0 2) + 1))))] H := hP
    refine r_is F hP hS 0 rfl (j := 3) rfl (by decide) dX5_day_25 (fun H locs hP hS => ?_)
    have hP : WD D A [(a_q0, .inl (cI, 45, .inl (upd (upd q0 2 ((q0 2) + 1)) 3 r35)))] H := hP
    refine lv_iconst (v := 0) hx hb dX5_day_26 (by decide) ?_
    refine lv_istore_n (lv' := [(2, .int 0), (0, .ref a_q0), (1, .int p1)]) hx hb dX5_day_27 rfl hl (by decide) rfl (fun ls hl => ?_)
    obtain ⟨t37, hk38, h⟩ := bd1_e h
    refine L28 g 0 (upd (upd q0 2 ((q0 2) + 1)) 3 r35) t37 H locs ls hk38 hP hS (lv_sub hl [1, 0] rfl) (fun H locs ls hP hS hl => ?_)
    exact hret 90 H locs ls t37 h dX5_day_90 hP hS
theorem eSX5_daysOn : yX5_daysOn.cls ≠ "java/lang/invoke/MethodHandle" ∧ yX5_daysOn.cls ≠ "java/lang/invoke/VarHandle" ∧ (parseMethodDescriptor yX5_daysOn.desc).map (fun d => d.parameters.length) = some 2 := by decide +kernel
theorem eVX5_daysOn : yX5_daysOn.cls = RX5 ∧ yX5_daysOn.cls ≠ "java/lang/invoke/MethodHandle" ∧ yX5_daysOn.cls ≠ "java/lang/invoke/VarHandle" ∧ (parseMethodDescriptor yX5_daysOn.desc).map (fun d => d.parameters.length) = some 2 := ⟨rfl, eSX5_daysOn⟩
abbrev rmX5_daysOn : Room := { frames := 6, cells := 0, slots := 0, locals := 135 }
def fX5_daysOn_L2_b (g : Nat) (x1_L2 : Int32) (self : Int32 → (Nat → Int32) → Option ((Nat → Int32))) (x2_L2 : Int32) (q0_L2 : Nat → Int32) : Option ((Nat → Int32)) := if x1_L2 ≤ x2_L2 then (some q0_L2) else (bd1 (fX5_day g 0 q0_L2) fun q0_3 => (self (x2_L2 + 1) q0_3))
def fX5_daysOn_L2 (g : Nat) (x1_L2 : Int32) (n : Nat) : Int32 → (Nat → Int32) → Option ((Nat → Int32)) := lp (fX5_daysOn_L2_b g x1_L2) (fun _ _ => none) n
def fX5_daysOn (g : Nat) (p1 : Int32) (q0 : Nat → Int32) : Option ((Nat → Int32)) := bd1 (fX5_daysOn_L2 g p1 g 0 q0) fun t5 => (some t5)
set_option maxHeartbeats 4000000 in
set_option maxRecDepth 100000 in
theorem kX5_daysOn (l : Launch) (D : va_G) (cI cJ : ClassId) (sz g : Nat) (a_q0 : Nat) (q0 : Nat → Int32) (p1 : Int32) (n_q0 : Nat → Int32) (hf : fX5_daysOn g p1 q0 = some n_q0) : Met l yX5_daysOn wsX5_daysOn rmX5_daysOn (va_Pc [.ref a_q0, .int p1] (sPc D (tyL cI cJ) [(a_q0, .inl (cI, 45, .inl q0))] sz)) (qV D (tyL cI cJ) [(a_q0, .inl (cI, 45, .inl q0))] sz [(a_q0, .inl (cI, 45, .inl n_q0))]) 0 0 (va_A [(a_q0, .inl (cI, 45, .inl q0))] sz) := by
  refine st_v (cc := cX5_daysOn) (maxL := 3) (by decide) rfl (Nat.le_of_ble_eq_true rfl) ?_
  intro p e s m args below meth c A Q F hret0 H locs hP hS ls hl
  have F : Cx p s m args c cX5_daysOn 3 wsX5_daysOn RX5 D (tyL cI cJ) A := F
  have hx := F.1.1
  have hb := F.1.2.1
  have hown := F.1.2.2.2.1
  have hts := F.1.2.2.2.2
  have hret : ∀ (pc : Nat) (H : Heap) (locs : List Loc) (ls : Array Slot) (m_q0 : Nat → Int32), some m_q0 = some n_q0 → decode cX5_daysOn pc = .ok (.return_, 1) → WD D A [(a_q0, .inl (cI, 45, .inl m_q0))] H → va_S A s.heap H locs → W p l e rmX5_daysOn s m args below meth c H locs 0 0 Q (F0 m pc ls []) := by
    intro pc H locs ls m_q0 h hd hP hS
    cases h
    exact hret0 pc H locs ls hd hP hS
  have L2 : ∀ (x1_L2 : Int32) (n : Nat) (x2_L2 : Int32) (q0_L2 : Nat → Int32) (tt0 : Nat → Int32) (H : Heap) (locs : List Loc) (ls : Array Slot), fX5_daysOn_L2 g x1_L2 n x2_L2 q0_L2 = some tt0 → WD D A [(a_q0, .inl (cI, 45, .inl q0_L2))] H → va_S A s.heap H locs → lv_has ls 3 [(0, .ref a_q0), (1, .int x1_L2), (2, .int x2_L2)] → (∀ (H : Heap) (locs : List Loc) (ls : Array Slot), WD D A [(a_q0, .inl (cI, 45, .inl tt0))] H → va_S A s.heap H locs → lv_has ls 3 [] → W p l e rmX5_daysOn s m args below meth c H locs 0 0 Q (F0 m 18 ls [])) → W p l e rmX5_daysOn s m args below meth c H locs 0 0 Q (F0 m 2 ls []) := by
    intro x1_L2 n
    induction n with
    | zero =>
      intro x2_L2 q0_L2 tt0 H locs ls h
      exact (no_some h).elim
    | succ n ih =>
      intro x2_L2 q0_L2 tt0 H locs ls h hP hS hl kE
      have h : fX5_daysOn_L2_b g x1_L2 (fX5_daysOn_L2 g x1_L2 n) x2_L2 q0_L2 = some tt0 := h
      unfold fX5_daysOn_L2_b at h
      refine lv_iload_n hx hb dX5_daysOn_2 rfl (lv_at hl 2 rfl) ?_
      refine lv_iload_n hx hb dX5_daysOn_3 rfl (lv_at hl 1 rfl) ?_
      refine lv_icmp_ge (tgt := 18) hx hb dX5_daysOn_4 (by decide) (fun hc2 => ?_) (fun hc2 => ?_)
      · have h := it_p hc2 h
        cases h
        exact kE H locs ls hP hS (lv_sub hl [] rfl)
      · have h := it_n hc2 h
        refine lv_aload_n hx hb dX5_daysOn_7 rfl (lv_at hl 0 rfl) ?_
        refine lv_iconst (v := 0) hx hb dX5_daysOn_8 (by decide) ?_
        obtain ⟨q0_3, hk4, h⟩ := bd1_e h
        refine cS_v (rest := []) F (kX5_day l D cI cJ H.size g a_q0 q0_L2 0 q0_3 hk4) (va_cwS 2 hts gX5_daysOn_X5_day rfl rfl rfl eSX5_day ⟨Nat.le_of_ble_eq_true rfl, Nat.le_of_ble_eq_true rfl⟩) [0] hP hS (by decide) rfl rfl rfl hl.1 (Nat.le_of_ble_eq_true rfl) ⟨Nat.le_refl _, Nat.le_refl _⟩ rfl dX5_daysOn_9 (fun H locs hP hS => ?_)
        have hP : WD D A [(a_q0, .inl (cI, 45, .inl q0_3))] H := hP
        refine lv_iinc (v := x2_L2 + 1) (lv' := [(2, .int (x2_L2 + 1)), (0, .ref a_q0), (1, .int x1_L2)]) hx hb dX5_daysOn_12 hl (k := 2) rfl rfl (by decide) rfl (fun ls hl => ?_)
        refine lv_goto (tgt := 2) hx hb dX5_daysOn_15 (by decide) ?_
        exact ih (x2_L2 + 1) q0_3 tt0 H locs ls h hP hS (lv_sub hl [1, 2, 0] rfl) kE
  have hl : lv_has ls 3 [(0, .ref a_q0), (1, .int p1)] := hl
  have h := hf
  unfold fX5_daysOn at h
  refine lv_iconst (v := 0) hx hb dX5_daysOn_0 (by decide) ?_
  refine lv_istore_n (lv' := [(2, .int 0), (0, .ref a_q0), (1, .int p1)]) hx hb dX5_daysOn_1 rfl hl (by decide) rfl (fun ls hl => ?_)
  obtain ⟨t5, hk6, h⟩ := bd1_e h
  refine L2 p1 g 0 q0 t5 H locs ls hk6 hP hS (lv_sub hl [1, 2, 0] rfl) (fun H locs ls hP hS hl => ?_)
  exact hret 18 H locs ls t5 h dX5_daysOn_18 hP hS
theorem eSX5_aboardIn : yX5_aboardIn.cls ≠ "java/lang/invoke/MethodHandle" ∧ yX5_aboardIn.cls ≠ "java/lang/invoke/VarHandle" ∧ (parseMethodDescriptor yX5_aboardIn.desc).map (fun d => d.parameters.length) = some 1 := by decide +kernel
theorem eVX5_aboardIn : yX5_aboardIn.cls = RX5 ∧ yX5_aboardIn.cls ≠ "java/lang/invoke/MethodHandle" ∧ yX5_aboardIn.cls ≠ "java/lang/invoke/VarHandle" ∧ (parseMethodDescriptor yX5_aboardIn.desc).map (fun d => d.parameters.length) = some 1 := ⟨rfl, eSX5_aboardIn⟩
abbrev rmX5_aboardIn : Room := { frames := 1, cells := 0, slots := 0, locals := 21 }
def fX5_aboardIn_L4_b (g : Nat) (q0 : Nat → Int32) (self : Int32 → Int32 → Option (Int32)) (x1_L4 : Int32) (x2_L4 : Int32) : Option (Int32) := if (q0 1) ≤ x2_L4 then (some x1_L4) else (bd1 (fX5_of g x2_L4 4) fun r3 => (gd (inB r3 45) (self (x1_L4 ||| ((q0 r3.toNatClampNeg) <<< (x2_L4 &&& 31))) (x2_L4 + 1))))
def fX5_aboardIn_L4 (g : Nat) (q0 : Nat → Int32) (n : Nat) : Int32 → Int32 → Option (Int32) := lp (fX5_aboardIn_L4_b g q0) (fun _ _ => none) n
def fX5_aboardIn (g : Nat) (q0 : Nat → Int32) : Option (Int32) := bd1 (fX5_aboardIn_L4 g q0 g 0 0) fun t6 => (some t6)
set_option maxHeartbeats 4000000 in
set_option maxRecDepth 100000 in
theorem kX5_aboardIn (l : Launch) (D : va_G) (cI cJ : ClassId) (sz g : Nat) (a_q0 : Nat) (q0 : Nat → Int32) (r : Int32) (hf : fX5_aboardIn g q0 = some r) : Met l yX5_aboardIn wsX5_aboardIn rmX5_aboardIn (va_Pc [.ref a_q0] (sPc D (tyL cI cJ) [(a_q0, .inl (cI, 45, .inl q0))] sz)) (qI D (tyL cI cJ) [(a_q0, .inl (cI, 45, .inl q0))] sz [(a_q0, .inl (cI, 45, .inl q0))] r) 0 0 (va_A [(a_q0, .inl (cI, 45, .inl q0))] sz) := by
  refine st_i (cc := cX5_aboardIn) (maxL := 3) (by decide) rfl (Nat.le_of_ble_eq_true rfl) ?_
  intro p e s m args below meth c A Q F hret0 H locs hP hS ls hl
  have F : Cx p s m args c cX5_aboardIn 3 wsX5_aboardIn RX5 D (tyL cI cJ) A := F
  have hx := F.1.1
  have hb := F.1.2.1
  have hown := F.1.2.2.2.1
  have hts := F.1.2.2.2.2
  have hret : ∀ (pc : Nat) (H : Heap) (locs : List Loc) (ls : Array Slot) (r' : Int32), some r' = some r → narrow .int (.int r') = .int r' → decode cX5_aboardIn pc = .ok (.ireturn, 1) → WD D A [(a_q0, .inl (cI, 45, .inl q0))] H → va_S A s.heap H locs → W p l e rmX5_aboardIn s m args below meth c H locs 0 0 Q (F0 m pc ls [.int r']) := by
    intro pc H locs ls r' h hn hd hP hS
    cases h
    exact hret0 pc H locs ls hn hd hP hS
  have L4 : ∀ (n : Nat) (x1_L4 : Int32) (x2_L4 : Int32) (tt0 : Int32) (H : Heap) (locs : List Loc) (ls : Array Slot), fX5_aboardIn_L4 g q0 n x1_L4 x2_L4 = some tt0 → WD D A [(a_q0, .inl (cI, 45, .inl q0))] H → va_S A s.heap H locs → lv_has ls 3 [(0, .ref a_q0), (1, .int x1_L4), (2, .int x2_L4)] → (∀ (H : Heap) (locs : List Loc) (ls : Array Slot), WD D A [(a_q0, .inl (cI, 45, .inl q0))] H → va_S A s.heap H locs → lv_has ls 3 [(1, .int tt0)] → W p l e rmX5_aboardIn s m args below meth c H locs 0 0 Q (F0 m 29 ls [])) → W p l e rmX5_aboardIn s m args below meth c H locs 0 0 Q (F0 m 4 ls []) := by
    intro n
    induction n with
    | zero =>
      intro x1_L4 x2_L4 tt0 H locs ls h
      exact (no_some h).elim
    | succ n ih =>
      intro x1_L4 x2_L4 tt0 H locs ls h hP hS hl kE
      have h : fX5_aboardIn_L4_b g q0 (fX5_aboardIn_L4 g q0 n) x1_L4 x2_L4 = some tt0 := h
      unfold fX5_aboardIn_L4_b at h
      refine lv_iload_n hx hb dX5_aboardIn_4 rfl (lv_at hl 2 rfl) ?_
      refine lv_aload_n hx hb dX5_aboardIn_5 rfl (lv_at hl 0 rfl) ?_
      refine lv_iconst (v := 1) hx hb dX5_aboardIn_6 (by decide) ?_
      refine r_ia F hP 0 rfl (j := 1) rfl (by decide) dX5_aboardIn_7 ?_
      refine lv_icmp_ge (tgt := 29) hx hb dX5_aboardIn_8 (by decide) (fun hc2 => ?_) (fun hc2 => ?_)
      · have h := it_p hc2 h
        cases h
        exact kE H locs ls hP hS (lv_sub hl [1] rfl)
      · have h := it_n hc2 h
        refine lv_iload_n hx hb dX5_aboardIn_11 rfl (lv_at hl 1 rfl) ?_
        refine lv_aload_n hx hb dX5_aboardIn_12 rfl (lv_at hl 0 rfl) ?_
        refine lv_iload_n hx hb dX5_aboardIn_13 rfl (lv_at hl 2 rfl) ?_
        refine lv_iconst (v := 4) hx hb dX5_aboardIn_14 (by decide) ?_
        obtain ⟨r3, hk4, h⟩ := bd1_e h
        refine cS_i (rest := [.ref a_q0, .int x1_L4]) F (kX5_of l D cI cJ H.size g x2_L4 4 r3 hk4) (va_cwS 2 hts gX5_aboardIn_X5_of rfl rfl rfl eSX5_of ⟨Nat.le_of_ble_eq_true rfl, Nat.le_of_ble_eq_true rfl⟩) [] hP hS (by decide) rfl rfl rfl hl.1 (Nat.le_of_ble_eq_true rfl) ⟨Nat.le_refl _, Nat.le_refl _⟩ rfl dX5_aboardIn_15 (fun H locs hP hS => ?_)
        have hP : WD D A [(a_q0, .inl (cI, 45, .inl q0))] H := hP
        obtain ⟨hg5, h⟩ := gd_e h
        refine r_ia F hP 0 rfl rfl hg5 dX5_aboardIn_18 ?_
        refine lv_iload_n hx hb dX5_aboardIn_19 rfl (lv_at hl 2 rfl) ?_
        refine lv_ishl hx hb dX5_aboardIn_20 ?_
        refine lv_ior hx hb dX5_aboardIn_21 ?_
        refine lv_istore_n (lv' := [(1, .int (x1_L4 ||| ((q0 r3.toNatClampNeg) <<< (x2_L4 &&& 31)))), (0, .ref a_q0), (2, .int x2_L4)]) hx hb dX5_aboardIn_22 rfl hl (by decide) rfl (fun ls hl => ?_)
        refine lv_iinc (v := x2_L4 + 1) (lv' := [(2, .int (x2_L4 + 1)), (1, .int (x1_L4 ||| ((q0 r3.toNatClampNeg) <<< (x2_L4 &&& 31)))), (0, .ref a_q0)]) hx hb dX5_aboardIn_23 hl (k := 2) rfl rfl (by decide) rfl (fun ls hl => ?_)
        refine lv_goto (tgt := 4) hx hb dX5_aboardIn_26 (by decide) ?_
        exact ih (x1_L4 ||| ((q0 r3.toNatClampNeg) <<< (x2_L4 &&& 31))) (x2_L4 + 1) tt0 H locs ls h hP hS (lv_sub hl [2, 1, 0] rfl) kE
  have hl : lv_has ls 3 [(0, .ref a_q0)] := hl
  have h := hf
  unfold fX5_aboardIn at h
  refine lv_iconst (v := 0) hx hb dX5_aboardIn_0 (by decide) ?_
  refine lv_istore_n (lv' := [(1, .int 0), (0, .ref a_q0)]) hx hb dX5_aboardIn_1 rfl hl (by decide) rfl (fun ls hl => ?_)
  refine lv_iconst (v := 0) hx hb dX5_aboardIn_2 (by decide) ?_
  refine lv_istore_n (lv' := [(2, .int 0), (1, .int 0), (0, .ref a_q0)]) hx hb dX5_aboardIn_3 rfl hl (by decide) rfl (fun ls hl => ?_)
  obtain ⟨t6, hk7, h⟩ := bd1_e h
  refine L4 g 0 0 t6 H locs ls hk7 hP hS (lv_sub hl [2, 1, 0] rfl) (fun H locs ls hP hS hl => ?_)
  refine lv_iload_n hx hb dX5_aboardIn_29 rfl (lv_at hl 0 rfl) ?_
  exact hret 30 H locs ls t6 h rfl dX5_aboardIn_30 hP hS
theorem eSX5_dropsIn : yX5_dropsIn.cls ≠ "java/lang/invoke/MethodHandle" ∧ yX5_dropsIn.cls ≠ "java/lang/invoke/VarHandle" ∧ (parseMethodDescriptor yX5_dropsIn.desc).map (fun d => d.parameters.length) = some 2 := by decide +kernel
theorem eVX5_dropsIn : yX5_dropsIn.cls = RX5 ∧ yX5_dropsIn.cls ≠ "java/lang/invoke/MethodHandle" ∧ yX5_dropsIn.cls ≠ "java/lang/invoke/VarHandle" ∧ (parseMethodDescriptor yX5_dropsIn.desc).map (fun d => d.parameters.length) = some 2 := ⟨rfl, eSX5_dropsIn⟩
abbrev rmX5_dropsIn : Room := { frames := 1, cells := 0, slots := 0, locals := 21 }
def fX5_dropsIn (g : Nat) (p1 : Int32) (q0 : Nat → Int32) : Option ((Nat → Int32)) := bd1 (fX5_of g p1 3) fun r5 => (gd (inB r5 45) (gd (inB r5 45) (some (upd q0 r5.toNatClampNeg ((q0 r5.toNatClampNeg) / 2)))))
set_option maxHeartbeats 4000000 in
set_option maxRecDepth 100000 in
theorem kX5_dropsIn (l : Launch) (D : va_G) (cI cJ : ClassId) (sz g : Nat) (a_q0 : Nat) (q0 : Nat → Int32) (p1 : Int32) (n_q0 : Nat → Int32) (hf : fX5_dropsIn g p1 q0 = some n_q0) : Met l yX5_dropsIn wsX5_dropsIn rmX5_dropsIn (va_Pc [.ref a_q0, .int p1] (sPc D (tyL cI cJ) [(a_q0, .inl (cI, 45, .inl q0))] sz)) (qV D (tyL cI cJ) [(a_q0, .inl (cI, 45, .inl q0))] sz [(a_q0, .inl (cI, 45, .inl n_q0))]) 0 0 (va_A [(a_q0, .inl (cI, 45, .inl q0))] sz) := by
  refine st_v (cc := cX5_dropsIn) (maxL := 2) (by decide) rfl (Nat.le_of_ble_eq_true rfl) ?_
  intro p e s m args below meth c A Q F hret0 H locs hP hS ls hl
  have F : Cx p s m args c cX5_dropsIn 2 wsX5_dropsIn RX5 D (tyL cI cJ) A := F
  have hx := F.1.1
  have hb := F.1.2.1
  have hown := F.1.2.2.2.1
  have hts := F.1.2.2.2.2
  have hret : ∀ (pc : Nat) (H : Heap) (locs : List Loc) (ls : Array Slot) (m_q0 : Nat → Int32), some m_q0 = some n_q0 → decode cX5_dropsIn pc = .ok (.return_, 1) → WD D A [(a_q0, .inl (cI, 45, .inl m_q0))] H → va_S A s.heap H locs → W p l e rmX5_dropsIn s m args below meth c H locs 0 0 Q (F0 m pc ls []) := by
    intro pc H locs ls m_q0 h hd hP hS
    cases h
    exact hret0 pc H locs ls hd hP hS
  have hl : lv_has ls 2 [(0, .ref a_q0), (1, .int p1)] := hl
  have h := hf
  unfold fX5_dropsIn at h
  refine lv_aload_n hx hb dX5_dropsIn_0 rfl (lv_at hl 0 rfl) ?_
  refine lv_iload_n hx hb dX5_dropsIn_1 rfl (lv_at hl 1 rfl) ?_
  refine lv_iconst (v := 3) hx hb dX5_dropsIn_2 (by decide) ?_
  obtain ⟨r5, hk6, h⟩ := bd1_e h
  refine cS_i (rest := [.ref a_q0]) F (kX5_of l D cI cJ H.size g p1 3 r5 hk6) (va_cwS 2 hts gX5_dropsIn_X5_of rfl rfl rfl eSX5_of ⟨Nat.le_of_ble_eq_true rfl, Nat.le_of_ble_eq_true rfl⟩) [] hP hS (by decide) rfl rfl rfl hl.1 (Nat.le_of_ble_eq_true rfl) ⟨Nat.le_refl _, Nat.le_refl _⟩ rfl dX5_dropsIn_3 (fun H locs hP hS => ?_)
  have hP : WD D A [(a_q0, .inl (cI, 45, .inl q0))] H := hP
  refine lv_dup2_11 hx hb dX5_dropsIn_6 rfl rfl ?_
  obtain ⟨hg7, h⟩ := gd_e h
  refine r_ia F hP 0 rfl rfl hg7 dX5_dropsIn_7 ?_
  refine lv_iconst (v := 2) hx hb dX5_dropsIn_8 (by decide) ?_
  refine lv_idiv hx hb dX5_dropsIn_9 (by decide) ?_
  obtain ⟨hg8, h⟩ := gd_e h
  refine r_is F hP hS 0 rfl rfl hg8 dX5_dropsIn_10 (fun H locs hP hS => ?_)
  have hP : WD D A [(a_q0, .inl (cI, 45, .inl (upd q0 r5.toNatClampNeg ((q0 r5.toNatClampNeg) / 2))))] H := hP
  exact hret 11 H locs ls (upd q0 r5.toNatClampNeg ((q0 r5.toNatClampNeg) / 2)) h dX5_dropsIn_11 hP hS
theorem eSX5_letter : yX5_letter.cls ≠ "java/lang/invoke/MethodHandle" ∧ yX5_letter.cls ≠ "java/lang/invoke/VarHandle" ∧ (parseMethodDescriptor yX5_letter.desc).map (fun d => d.parameters.length) = some 1 := by decide +kernel
theorem eVX5_letter : yX5_letter.cls = RX5 ∧ yX5_letter.cls ≠ "java/lang/invoke/MethodHandle" ∧ yX5_letter.cls ≠ "java/lang/invoke/VarHandle" ∧ (parseMethodDescriptor yX5_letter.desc).map (fun d => d.parameters.length) = some 1 := ⟨rfl, eSX5_letter⟩
abbrev rmX5_letter : Room := { frames := 1, cells := 0, slots := 0, locals := 21 }
def fX5_letter (g : Nat) (p0 : Int32) (z_letterMany : Int32) (z_letters : Nat → Int32) (z_refused : Nat → Int32) : Option (Int32 × Int32 × (Nat → Int32) × (Nat → Int32)) := if 0 ≤ p0 then (if 255 < p0 then (bd2 (fX5_no g (-6) z_refused) fun r16 z_refused_17 => (some (r16, z_letterMany, z_letters, z_refused_17))) else (if z_letterMany = 96 then (bd2 (fX5_no g (-6) z_refused) fun r21 z_refused_22 => (some (r21, z_letterMany, z_letters, z_refused_22))) else (gd (inB z_letterMany 96) (some (z_letterMany + 1, z_letterMany + 1, upd z_letters z_letterMany.toNatClampNeg p0, z_refused))))) else (bd2 (fX5_no g (-4) z_refused) fun r24 z_refused_25 => (some (r24, z_letterMany, z_letters, z_refused_25)))
set_option maxHeartbeats 4000000 in
set_option maxRecDepth 100000 in
theorem kX5_letter (l : Launch) (D : va_G) (cI cJ : ClassId) (sz g : Nat) (a_z a_z_s a_z_m a_z_image a_z_was a_z_letters a_z_row a_z_refused a_z_numbers : Nat) (z_hasImage : Int32) (z_letterMany : Int32) (z_rowMany : Int32) (z_reading : Int32) (z_seed : Int32) (z_letters : Nat → Int32) (z_refused : Nat → Int32) (p0 : Int32) (r : Int32) (n_z_letterMany : Int32) (n_z_letters : Nat → Int32) (n_z_refused : Nat → Int32) (hf : fX5_letter g p0 z_letterMany z_letters z_refused = some (r, n_z_letterMany, n_z_letters, n_z_refused)) : Met l yX5_letter wsX5_letter rmX5_letter (va_Pc [.ref a_z, .int p0] (sPc D (tyL cI cJ) [(a_z, .inr (5, [.ref a_z_s, .ref a_z_m, .ref a_z_image, .ref a_z_was, .int z_hasImage, .ref a_z_letters, .ref a_z_row, .ref a_z_refused, .int z_letterMany, .int z_rowMany, .int z_reading, .ref a_z_numbers, .int z_seed])), (a_z_letters, .inl (cI, 96, .inl z_letters)), (a_z_refused, .inl (cI, 7, .inl z_refused))] sz)) (qI D (tyL cI cJ) [(a_z, .inr (5, [.ref a_z_s, .ref a_z_m, .ref a_z_image, .ref a_z_was, .int z_hasImage, .ref a_z_letters, .ref a_z_row, .ref a_z_refused, .int z_letterMany, .int z_rowMany, .int z_reading, .ref a_z_numbers, .int z_seed])), (a_z_letters, .inl (cI, 96, .inl z_letters)), (a_z_refused, .inl (cI, 7, .inl z_refused))] sz [(a_z, .inr (5, [.ref a_z_s, .ref a_z_m, .ref a_z_image, .ref a_z_was, .int z_hasImage, .ref a_z_letters, .ref a_z_row, .ref a_z_refused, .int n_z_letterMany, .int z_rowMany, .int z_reading, .ref a_z_numbers, .int z_seed])), (a_z_letters, .inl (cI, 96, .inl n_z_letters)), (a_z_refused, .inl (cI, 7, .inl n_z_refused))] r) 0 0 (va_A [(a_z, .inr (5, [.ref a_z_s, .ref a_z_m, .ref a_z_image, .ref a_z_was, .int z_hasImage, .ref a_z_letters, .ref a_z_row, .ref a_z_refused, .int z_letterMany, .int z_rowMany, .int z_reading, .ref a_z_numbers, .int z_seed])), (a_z_letters, .inl (cI, 96, .inl z_letters)), (a_z_refused, .inl (cI, 7, .inl z_refused))] sz) := by
  refine st_i (cc := cX5_letter) (maxL := 2) (by decide) rfl (Nat.le_of_ble_eq_true rfl) ?_
  intro p e s m args below meth c A Q F hret0 H locs hP hS ls hl
  have F : Cx p s m args c cX5_letter 2 wsX5_letter RX5 D (tyL cI cJ) A := F
  have hx := F.1.1
  have hb := F.1.2.1
  have hown := F.1.2.2.2.1
  have hts := F.1.2.2.2.2
  have iX5 : ∀ w ∈ wsX50, w ∈ wsX5_letter := fun w h => (List.mem_cons_of_mem _ (List.mem_append_right _ h))
  have hret : ∀ (pc : Nat) (H : Heap) (locs : List Loc) (ls : Array Slot) (r' : Int32) (m_z_letterMany : Int32) (m_z_letters : Nat → Int32) (m_z_refused : Nat → Int32), some (r', m_z_letterMany, m_z_letters, m_z_refused) = some (r, n_z_letterMany, n_z_letters, n_z_refused) → narrow .int (.int r') = .int r' → decode cX5_letter pc = .ok (.ireturn, 1) → WD D A [(a_z, .inr (5, [.ref a_z_s, .ref a_z_m, .ref a_z_image, .ref a_z_was, .int z_hasImage, .ref a_z_letters, .ref a_z_row, .ref a_z_refused, .int m_z_letterMany, .int z_rowMany, .int z_reading, .ref a_z_numbers, .int z_seed])), (a_z_letters, .inl (cI, 96, .inl m_z_letters)), (a_z_refused, .inl (cI, 7, .inl m_z_refused))] H → va_S A s.heap H locs → W p l e rmX5_letter s m args below meth c H locs 0 0 Q (F0 m pc ls [.int r']) := by
    intro pc H locs ls r' m_z_letterMany m_z_letters m_z_refused h hn hd hP hS
    cases h
    exact hret0 pc H locs ls hn hd hP hS
  have hl : lv_has ls 2 [(0, .ref a_z), (1, .int p0)] := hl
  have h := hf
  unfold fX5_letter at h
  refine lv_iload_n hx hb dX5_letter_0 rfl (lv_at hl 1 rfl) ?_
  refine lv_if_ge (tgt := 11) hx hb dX5_letter_1 (by decide) (fun hc14 => ?_) (fun hc14 => ?_)
  · have h := it_p hc14 h
    refine lv_iload_n hx hb dX5_letter_11 rfl (lv_at hl 1 rfl) ?_
    refine lv_sipush (v := 255) hx hb dX5_letter_12 (by decide) ?_
    refine lv_icmp_gt (tgt := 27) hx hb dX5_letter_15 (by decide) (fun hc15 => ?_) (fun hc15 => ?_)
    · have h := it_p hc15 h
      refine lv_aload_n hx hb dX5_letter_27 rfl (lv_at hl 0 rfl) ?_
      refine lv_bipush (v := (-6)) hx hb dX5_letter_28 (by decide) ?_
      obtain ⟨r16, z_refused_17, hk18, h⟩ := bd2_e h
      refine cV_i (rest := []) F (kX5_no l D cI cJ H.size g a_z a_z_s a_z_m a_z_image a_z_was a_z_letters a_z_row a_z_refused a_z_numbers z_hasImage z_letterMany z_rowMany z_reading z_seed z_refused (-6) r16 z_refused_17 hk18) (cwV 1 hts gX5_letter_X5_no rfl rfl rfl eVX5_no ⟨Nat.le_of_ble_eq_true rfl, Nat.le_of_ble_eq_true rfl⟩) [0, 2] hP hS (by decide) rfl rfl 0 rfl rfl rfl hl.1 (Nat.le_of_ble_eq_true rfl) ⟨Nat.le_refl _, Nat.le_refl _⟩ rfl dX5_letter_30 (fun H locs hP hS => ?_)
      have hP : WD D A [(a_z, .inr (5, [.ref a_z_s, .ref a_z_m, .ref a_z_image, .ref a_z_was, .int z_hasImage, .ref a_z_letters, .ref a_z_row, .ref a_z_refused, .int z_letterMany, .int z_rowMany, .int z_reading, .ref a_z_numbers, .int z_seed])), (a_z_letters, .inl (cI, 96, .inl z_letters)), (a_z_refused, .inl (cI, 7, .inl z_refused_17))] H := hP
      exact hret 33 H locs ls r16 z_letterMany z_letters z_refused_17 h rfl dX5_letter_33 hP hS
    · have h := it_n hc15 h
      refine lv_aload_n hx hb dX5_letter_18 rfl (lv_at hl 0 rfl) ?_
      refine gt_X5_89 F iX5 (List.mem_cons_of_mem _ (List.mem_append_left _ (List.mem_of_getElem? (i := 0) rfl))) hP 0 rfl dX5_letter_19 ?_
      refine lv_bipush (v := 96) hx hb dX5_letter_22 (by decide) ?_
      refine lv_icmp_ne (tgt := 34) hx hb dX5_letter_24 (by decide) (fun hc19 => ?_) (fun hc19 => ?_)
      · have h := it_n hc19 h
        refine lv_aload_n hx hb dX5_letter_34 rfl (lv_at hl 0 rfl) ?_
        refine gt_X5_22 F iX5 (List.mem_cons_of_mem _ (List.mem_append_left _ (List.mem_of_getElem? (i := 1) rfl))) hP 0 rfl dX5_letter_35 ?_
        refine lv_aload_n hx hb dX5_letter_38 rfl (lv_at hl 0 rfl) ?_
        refine gt_X5_89 F iX5 (List.mem_cons_of_mem _ (List.mem_append_left _ (List.mem_of_getElem? (i := 0) rfl))) hP 0 rfl dX5_letter_39 ?_
        refine lv_iload_n hx hb dX5_letter_42 rfl (lv_at hl 1 rfl) ?_
        obtain ⟨hg20, h⟩ := gd_e h
        refine r_is F hP hS 1 rfl rfl hg20 dX5_letter_43 (fun H locs hP hS => ?_)
        have hP : WD D A [(a_z, .inr (5, [.ref a_z_s, .ref a_z_m, .ref a_z_image, .ref a_z_was, .int z_hasImage, .ref a_z_letters, .ref a_z_row, .ref a_z_refused, .int z_letterMany, .int z_rowMany, .int z_reading, .ref a_z_numbers, .int z_seed])), (a_z_letters, .inl (cI, 96, .inl (upd z_letters z_letterMany.toNatClampNeg p0))), (a_z_refused, .inl (cI, 7, .inl z_refused))] H := hP
        refine lv_aload_n hx hb dX5_letter_44 rfl (lv_at hl 0 rfl) ?_
        refine lv_dup hx hb dX5_letter_45 rfl ?_
        refine gt_X5_89 F iX5 (List.mem_cons_of_mem _ (List.mem_append_left _ (List.mem_of_getElem? (i := 0) rfl))) hP 0 rfl dX5_letter_46 ?_
        refine lv_iconst (v := 1) hx hb dX5_letter_49 (by decide) ?_
        refine lv_iadd hx hb dX5_letter_50 ?_
        refine pt_X5_89 F iX5 (List.mem_cons_of_mem _ (List.mem_append_left _ (List.mem_of_getElem? (i := 0) rfl))) hP hS 0 rfl dX5_letter_51 (fun H locs hP hS => ?_)
        have hP : WD D A [(a_z, .inr (5, [.ref a_z_s, .ref a_z_m, .ref a_z_image, .ref a_z_was, .int z_hasImage, .ref a_z_letters, .ref a_z_row, .ref a_z_refused, .int (z_letterMany + 1), .int z_rowMany, .int z_reading, .ref a_z_numbers, .int z_seed])), (a_z_letters, .inl (cI, 96, .inl (upd z_letters z_letterMany.toNatClampNeg p0))), (a_z_refused, .inl (cI, 7, .inl z_refused))] H := hP
        refine lv_aload_n hx hb dX5_letter_54 rfl (lv_at hl 0 rfl) ?_
        refine gt_X5_89 F iX5 (List.mem_cons_of_mem _ (List.mem_append_left _ (List.mem_of_getElem? (i := 0) rfl))) hP 0 rfl dX5_letter_55 ?_
        exact hret 58 H locs ls (z_letterMany + 1) (z_letterMany + 1) (upd z_letters z_letterMany.toNatClampNeg p0) z_refused h rfl dX5_letter_58 hP hS
      · have h := it_p hc19 h
        refine lv_aload_n hx hb dX5_letter_27 rfl (lv_at hl 0 rfl) ?_
        refine lv_bipush (v := (-6)) hx hb dX5_letter_28 (by decide) ?_
        obtain ⟨r21, z_refused_22, hk23, h⟩ := bd2_e h
        refine cV_i (rest := []) F (kX5_no l D cI cJ H.size g a_z a_z_s a_z_m a_z_image a_z_was a_z_letters a_z_row a_z_refused a_z_numbers z_hasImage z_letterMany z_rowMany z_reading z_seed z_refused (-6) r21 z_refused_22 hk23) (cwV 1 hts gX5_letter_X5_no rfl rfl rfl eVX5_no ⟨Nat.le_of_ble_eq_true rfl, Nat.le_of_ble_eq_true rfl⟩) [0, 2] hP hS (by decide) rfl rfl 0 rfl rfl rfl hl.1 (Nat.le_of_ble_eq_true rfl) ⟨Nat.le_refl _, Nat.le_refl _⟩ rfl dX5_letter_30 (fun H locs hP hS => ?_)
        have hP : WD D A [(a_z, .inr (5, [.ref a_z_s, .ref a_z_m, .ref a_z_image, .ref a_z_was, .int z_hasImage, .ref a_z_letters, .ref a_z_row, .ref a_z_refused, .int z_letterMany, .int z_rowMany, .int z_reading, .ref a_z_numbers, .int z_seed])), (a_z_letters, .inl (cI, 96, .inl z_letters)), (a_z_refused, .inl (cI, 7, .inl z_refused_22))] H := hP
        exact hret 33 H locs ls r21 z_letterMany z_letters z_refused_22 h rfl dX5_letter_33 hP hS
  · have h := it_n hc14 h
    refine lv_aload_n hx hb dX5_letter_4 rfl (lv_at hl 0 rfl) ?_
    refine lv_bipush (v := (-4)) hx hb dX5_letter_5 (by decide) ?_
    obtain ⟨r24, z_refused_25, hk26, h⟩ := bd2_e h
    refine cV_i (rest := []) F (kX5_no l D cI cJ H.size g a_z a_z_s a_z_m a_z_image a_z_was a_z_letters a_z_row a_z_refused a_z_numbers z_hasImage z_letterMany z_rowMany z_reading z_seed z_refused (-4) r24 z_refused_25 hk26) (cwV 1 hts gX5_letter_X5_no rfl rfl rfl eVX5_no ⟨Nat.le_of_ble_eq_true rfl, Nat.le_of_ble_eq_true rfl⟩) [0, 2] hP hS (by decide) rfl rfl 0 rfl rfl rfl hl.1 (Nat.le_of_ble_eq_true rfl) ⟨Nat.le_refl _, Nat.le_refl _⟩ rfl dX5_letter_7 (fun H locs hP hS => ?_)
    have hP : WD D A [(a_z, .inr (5, [.ref a_z_s, .ref a_z_m, .ref a_z_image, .ref a_z_was, .int z_hasImage, .ref a_z_letters, .ref a_z_row, .ref a_z_refused, .int z_letterMany, .int z_rowMany, .int z_reading, .ref a_z_numbers, .int z_seed])), (a_z_letters, .inl (cI, 96, .inl z_letters)), (a_z_refused, .inl (cI, 7, .inl z_refused_25))] H := hP
    exact hret 10 H locs ls r24 z_letterMany z_letters z_refused_25 h rfl dX5_letter_10 hP hS
theorem eSX5_here : yX5_here.cls ≠ "java/lang/invoke/MethodHandle" ∧ yX5_here.cls ≠ "java/lang/invoke/VarHandle" ∧ (parseMethodDescriptor yX5_here.desc).map (fun d => d.parameters.length) = some 0 := by decide +kernel
theorem eVX5_here : yX5_here.cls = RX5 ∧ yX5_here.cls ≠ "java/lang/invoke/MethodHandle" ∧ yX5_here.cls ≠ "java/lang/invoke/VarHandle" ∧ (parseMethodDescriptor yX5_here.desc).map (fun d => d.parameters.length) = some 0 := ⟨rfl, eSX5_here⟩
abbrev rmX5_here : Room := { frames := 0, cells := 0, slots := 0, locals := 0 }
def fX5_here (g : Nat) (z_letterMany : Int32) (z_reading : Int32) (z_letters : Nat → Int32) : Option (Int32) := if z_letterMany ≤ z_reading then (some (-1)) else (gd (inB z_reading 96) (some (z_letters z_reading.toNatClampNeg)))
set_option maxHeartbeats 4000000 in
set_option maxRecDepth 100000 in
theorem kX5_here (l : Launch) (D : va_G) (cI cJ : ClassId) (sz g : Nat) (a_z a_z_s a_z_m a_z_image a_z_was a_z_letters a_z_row a_z_refused a_z_numbers : Nat) (z_hasImage : Int32) (z_letterMany : Int32) (z_rowMany : Int32) (z_reading : Int32) (z_seed : Int32) (z_letters : Nat → Int32) (r : Int32) (hf : fX5_here g z_letterMany z_reading z_letters = some r) : Met l yX5_here wsX5_here rmX5_here (va_Pc [.ref a_z] (sPc D (tyL cI cJ) [(a_z, .inr (5, [.ref a_z_s, .ref a_z_m, .ref a_z_image, .ref a_z_was, .int z_hasImage, .ref a_z_letters, .ref a_z_row, .ref a_z_refused, .int z_letterMany, .int z_rowMany, .int z_reading, .ref a_z_numbers, .int z_seed])), (a_z_letters, .inl (cI, 96, .inl z_letters))] sz)) (qI D (tyL cI cJ) [(a_z, .inr (5, [.ref a_z_s, .ref a_z_m, .ref a_z_image, .ref a_z_was, .int z_hasImage, .ref a_z_letters, .ref a_z_row, .ref a_z_refused, .int z_letterMany, .int z_rowMany, .int z_reading, .ref a_z_numbers, .int z_seed])), (a_z_letters, .inl (cI, 96, .inl z_letters))] sz [(a_z, .inr (5, [.ref a_z_s, .ref a_z_m, .ref a_z_image, .ref a_z_was, .int z_hasImage, .ref a_z_letters, .ref a_z_row, .ref a_z_refused, .int z_letterMany, .int z_rowMany, .int z_reading, .ref a_z_numbers, .int z_seed])), (a_z_letters, .inl (cI, 96, .inl z_letters))] r) 0 0 (va_A [(a_z, .inr (5, [.ref a_z_s, .ref a_z_m, .ref a_z_image, .ref a_z_was, .int z_hasImage, .ref a_z_letters, .ref a_z_row, .ref a_z_refused, .int z_letterMany, .int z_rowMany, .int z_reading, .ref a_z_numbers, .int z_seed])), (a_z_letters, .inl (cI, 96, .inl z_letters))] sz) := by
  refine st_i (cc := cX5_here) (maxL := 1) (by decide) rfl (Nat.le_of_ble_eq_true rfl) ?_
  intro p e s m args below meth c A Q F hret0 H locs hP hS ls hl
  have F : Cx p s m args c cX5_here 1 wsX5_here RX5 D (tyL cI cJ) A := F
  have hx := F.1.1
  have hb := F.1.2.1
  have hown := F.1.2.2.2.1
  have hts := F.1.2.2.2.2
  have iX5 : ∀ w ∈ wsX50, w ∈ wsX5_here := fun w h => (List.mem_cons_of_mem _ (List.mem_append_right _ h))
  have hret : ∀ (pc : Nat) (H : Heap) (locs : List Loc) (ls : Array Slot) (r' : Int32), some r' = some r → narrow .int (.int r') = .int r' → decode cX5_here pc = .ok (.ireturn, 1) → WD D A [(a_z, .inr (5, [.ref a_z_s, .ref a_z_m, .ref a_z_image, .ref a_z_was, .int z_hasImage, .ref a_z_letters, .ref a_z_row, .ref a_z_refused, .int z_letterMany, .int z_rowMany, .int z_reading, .ref a_z_numbers, .int z_seed])), (a_z_letters, .inl (cI, 96, .inl z_letters))] H → va_S A s.heap H locs → W p l e rmX5_here s m args below meth c H locs 0 0 Q (F0 m pc ls [.int r']) := by
    intro pc H locs ls r' h hn hd hP hS
    cases h
    exact hret0 pc H locs ls hn hd hP hS
  have hl : lv_has ls 1 [(0, .ref a_z)] := hl
  have h := hf
  unfold fX5_here at h
  refine lv_aload_n hx hb dX5_here_0 rfl (lv_at hl 0 rfl) ?_
  refine gt_X5_93 F iX5 (List.mem_cons_of_mem _ (List.mem_append_left _ (List.mem_of_getElem? (i := 0) rfl))) hP 0 rfl dX5_here_1 ?_
  refine lv_aload_n hx hb dX5_here_4 rfl (lv_at hl 0 rfl) ?_
  refine gt_X5_89 F iX5 (List.mem_cons_of_mem _ (List.mem_append_left _ (List.mem_of_getElem? (i := 1) rfl))) hP 0 rfl dX5_here_5 ?_
  refine lv_icmp_ge (tgt := 23) hx hb dX5_here_8 (by decide) (fun hc3 => ?_) (fun hc3 => ?_)
  · have h := it_p hc3 h
    refine lv_iconst (v := (-1)) hx hb dX5_here_23 (by decide) ?_
    exact hret 24 H locs ls (-1) h rfl dX5_here_24 hP hS
  · have h := it_n hc3 h
    refine lv_aload_n hx hb dX5_here_11 rfl (lv_at hl 0 rfl) ?_
    refine gt_X5_22 F iX5 (List.mem_cons_of_mem _ (List.mem_append_left _ (List.mem_of_getElem? (i := 2) rfl))) hP 0 rfl dX5_here_12 ?_
    refine lv_aload_n hx hb dX5_here_15 rfl (lv_at hl 0 rfl) ?_
    refine gt_X5_93 F iX5 (List.mem_cons_of_mem _ (List.mem_append_left _ (List.mem_of_getElem? (i := 0) rfl))) hP 0 rfl dX5_here_16 ?_
    obtain ⟨hg4, h⟩ := gd_e h
    refine r_ia F hP 1 rfl rfl hg4 dX5_here_19 ?_
    refine lv_goto (tgt := 24) hx hb dX5_here_20 (by decide) ?_
    exact hret 24 H locs ls (z_letters z_reading.toNatClampNeg) h rfl dX5_here_24 hP hS
theorem eSX5_readsNumber : yX5_readsNumber.cls ≠ "java/lang/invoke/MethodHandle" ∧ yX5_readsNumber.cls ≠ "java/lang/invoke/VarHandle" ∧ (parseMethodDescriptor yX5_readsNumber.desc).map (fun d => d.parameters.length) = some 2 := by decide +kernel
theorem eVX5_readsNumber : yX5_readsNumber.cls = RX5 ∧ yX5_readsNumber.cls ≠ "java/lang/invoke/MethodHandle" ∧ yX5_readsNumber.cls ≠ "java/lang/invoke/VarHandle" ∧ (parseMethodDescriptor yX5_readsNumber.desc).map (fun d => d.parameters.length) = some 2 := ⟨rfl, eSX5_readsNumber⟩
abbrev rmX5_readsNumber : Room := { frames := 1, cells := 0, slots := 0, locals := 22 }
def fX5_readsNumber_L9_b (g : Nat) (x1_L9 : Int32) (x2_L9 : Int32) (z_letterMany : Int32) (z_letters : Nat → Int32) (self : Int32 → Int32 → (Nat → Int32) → Option ((Int32 × (Nat → Int32)) ⊕ (Int32 × Int32 × (Nat → Int32)))) (x3_L9 : Int32) (z_reading_L9 : Int32) (z_numbers_L9 : Nat → Int32) : Option ((Int32 × (Nat → Int32)) ⊕ (Int32 × Int32 × (Nat → Int32))) := if x2_L9 ≤ x3_L9 then (some (.inl (z_reading_L9, z_numbers_L9))) else (bd1 (fX5_here g z_letterMany z_reading_L9 z_letters) fun r6 => (bd1 (fX5_isIn g r6 48 57) fun r8 => (if r8 = 0 then (some (.inr (0, z_reading_L9, z_numbers_L9))) else (gd (inB x1_L9 3) (bd1 (fX5_here g z_letterMany z_reading_L9 z_letters) fun r12 => (gd (inB x1_L9 3) (self (x3_L9 + 1) (z_reading_L9 + 1) (upd z_numbers_L9 x1_L9.toNatClampNeg (((10 * (z_numbers_L9 x1_L9.toNatClampNeg)) + r12) - 48)))))))))
def fX5_readsNumber_L9 (g : Nat) (x1_L9 : Int32) (x2_L9 : Int32) (z_letterMany : Int32) (z_letters : Nat → Int32) (n : Nat) : Int32 → Int32 → (Nat → Int32) → Option ((Int32 × (Nat → Int32)) ⊕ (Int32 × Int32 × (Nat → Int32))) := lp (fX5_readsNumber_L9_b g x1_L9 x2_L9 z_letterMany z_letters) (fun _ _ _ => none) n
def fX5_readsNumber (g : Nat) (p0 : Int32) (p1 : Int32) (z_letterMany : Int32) (z_reading : Int32) (z_letters : Nat → Int32) (z_numbers : Nat → Int32) : Option (Int32 × Int32 × (Nat → Int32)) := gd (inB p0 3) (bs2 (fX5_readsNumber_L9 g p0 p1 z_letterMany z_letters g 0 z_reading (upd z_numbers p0.toNatClampNeg 0)) (fun q => some q) fun t15 t16 => (some (1, t15, t16)))
set_option maxHeartbeats 4000000 in
set_option maxRecDepth 100000 in
theorem kX5_readsNumber (l : Launch) (D : va_G) (cI cJ : ClassId) (sz g : Nat) (a_z a_z_s a_z_m a_z_image a_z_was a_z_letters a_z_row a_z_refused a_z_numbers : Nat) (z_hasImage : Int32) (z_letterMany : Int32) (z_rowMany : Int32) (z_reading : Int32) (z_seed : Int32) (z_letters : Nat → Int32) (z_numbers : Nat → Int32) (p0 : Int32) (p1 : Int32) (r : Int32) (n_z_reading : Int32) (n_z_numbers : Nat → Int32) (hf : fX5_readsNumber g p0 p1 z_letterMany z_reading z_letters z_numbers = some (r, n_z_reading, n_z_numbers)) : Met l yX5_readsNumber wsX5_readsNumber rmX5_readsNumber (va_Pc [.ref a_z, .int p0, .int p1] (sPc D (tyL cI cJ) [(a_z, .inr (5, [.ref a_z_s, .ref a_z_m, .ref a_z_image, .ref a_z_was, .int z_hasImage, .ref a_z_letters, .ref a_z_row, .ref a_z_refused, .int z_letterMany, .int z_rowMany, .int z_reading, .ref a_z_numbers, .int z_seed])), (a_z_letters, .inl (cI, 96, .inl z_letters)), (a_z_numbers, .inl (cI, 3, .inl z_numbers))] sz)) (qI D (tyL cI cJ) [(a_z, .inr (5, [.ref a_z_s, .ref a_z_m, .ref a_z_image, .ref a_z_was, .int z_hasImage, .ref a_z_letters, .ref a_z_row, .ref a_z_refused, .int z_letterMany, .int z_rowMany, .int z_reading, .ref a_z_numbers, .int z_seed])), (a_z_letters, .inl (cI, 96, .inl z_letters)), (a_z_numbers, .inl (cI, 3, .inl z_numbers))] sz [(a_z, .inr (5, [.ref a_z_s, .ref a_z_m, .ref a_z_image, .ref a_z_was, .int z_hasImage, .ref a_z_letters, .ref a_z_row, .ref a_z_refused, .int z_letterMany, .int z_rowMany, .int n_z_reading, .ref a_z_numbers, .int z_seed])), (a_z_letters, .inl (cI, 96, .inl z_letters)), (a_z_numbers, .inl (cI, 3, .inl n_z_numbers))] r) 0 0 (va_A [(a_z, .inr (5, [.ref a_z_s, .ref a_z_m, .ref a_z_image, .ref a_z_was, .int z_hasImage, .ref a_z_letters, .ref a_z_row, .ref a_z_refused, .int z_letterMany, .int z_rowMany, .int z_reading, .ref a_z_numbers, .int z_seed])), (a_z_letters, .inl (cI, 96, .inl z_letters)), (a_z_numbers, .inl (cI, 3, .inl z_numbers))] sz) := by
  refine st_i (cc := cX5_readsNumber) (maxL := 4) (by decide) rfl (Nat.le_of_ble_eq_true rfl) ?_
  intro p e s m args below meth c A Q F hret0 H locs hP hS ls hl
  have F : Cx p s m args c cX5_readsNumber 4 wsX5_readsNumber RX5 D (tyL cI cJ) A := F
  have hx := F.1.1
  have hb := F.1.2.1
  have hown := F.1.2.2.2.1
  have hts := F.1.2.2.2.2
  have iX5 : ∀ w ∈ wsX50, w ∈ wsX5_readsNumber := fun w h => (List.mem_cons_of_mem _ (List.mem_append_right _ h))
  have hret : ∀ (pc : Nat) (H : Heap) (locs : List Loc) (ls : Array Slot) (r' : Int32) (m_z_reading : Int32) (m_z_numbers : Nat → Int32), some (r', m_z_reading, m_z_numbers) = some (r, n_z_reading, n_z_numbers) → narrow .boolean (.int r') = .int r' → decode cX5_readsNumber pc = .ok (.ireturn, 1) → WD D A [(a_z, .inr (5, [.ref a_z_s, .ref a_z_m, .ref a_z_image, .ref a_z_was, .int z_hasImage, .ref a_z_letters, .ref a_z_row, .ref a_z_refused, .int z_letterMany, .int z_rowMany, .int m_z_reading, .ref a_z_numbers, .int z_seed])), (a_z_letters, .inl (cI, 96, .inl z_letters)), (a_z_numbers, .inl (cI, 3, .inl m_z_numbers))] H → va_S A s.heap H locs → W p l e rmX5_readsNumber s m args below meth c H locs 0 0 Q (F0 m pc ls [.int r']) := by
    intro pc H locs ls r' m_z_reading m_z_numbers h hn hd hP hS
    cases h
    exact hret0 pc H locs ls hn hd hP hS
  have L9 : ∀ (x1_L9 : Int32) (x2_L9 : Int32) (n : Nat) (x3_L9 : Int32) (z_reading_L9 : Int32) (z_numbers_L9 : Nat → Int32) (x : (Int32 × (Nat → Int32)) ⊕ (Int32 × Int32 × (Nat → Int32))) (H : Heap) (locs : List Loc) (ls : Array Slot), fX5_readsNumber_L9 g x1_L9 x2_L9 z_letterMany z_letters n x3_L9 z_reading_L9 z_numbers_L9 = some x → WD D A [(a_z, .inr (5, [.ref a_z_s, .ref a_z_m, .ref a_z_image, .ref a_z_was, .int z_hasImage, .ref a_z_letters, .ref a_z_row, .ref a_z_refused, .int z_letterMany, .int z_rowMany, .int z_reading_L9, .ref a_z_numbers, .int z_seed])), (a_z_letters, .inl (cI, 96, .inl z_letters)), (a_z_numbers, .inl (cI, 3, .inl z_numbers_L9))] H → va_S A s.heap H locs → lv_has ls 4 [(0, .ref a_z), (1, .int x1_L9), (2, .int x2_L9), (3, .int x3_L9)] → (∀ (tt0 : Int32) (tt1 : Nat → Int32), .inl (tt0, tt1) = x → (∀ (H : Heap) (locs : List Loc) (ls : Array Slot), WD D A [(a_z, .inr (5, [.ref a_z_s, .ref a_z_m, .ref a_z_image, .ref a_z_was, .int z_hasImage, .ref a_z_letters, .ref a_z_row, .ref a_z_refused, .int z_letterMany, .int z_rowMany, .int tt0, .ref a_z_numbers, .int z_seed])), (a_z_letters, .inl (cI, 96, .inl z_letters)), (a_z_numbers, .inl (cI, 3, .inl tt1))] H → va_S A s.heap H locs → lv_has ls 4 [] → W p l e rmX5_readsNumber s m args below meth c H locs 0 0 Q (F0 m 69 ls []))) → (∀ q : Int32 × Int32 × (Nat → Int32), .inr q = x → some q = some (r, n_z_reading, n_z_numbers)) → W p l e rmX5_readsNumber s m args below meth c H locs 0 0 Q (F0 m 9 ls []) := by
    intro x1_L9 x2_L9 n
    induction n with
    | zero =>
      intro x3_L9 z_reading_L9 z_numbers_L9 x H locs ls h
      exact (no_some h).elim
    | succ n ih =>
      intro x3_L9 z_reading_L9 z_numbers_L9 x H locs ls h hP hS hl kE kR
      have h : fX5_readsNumber_L9_b g x1_L9 x2_L9 z_letterMany z_letters (fX5_readsNumber_L9 g x1_L9 x2_L9 z_letterMany z_letters n) x3_L9 z_reading_L9 z_numbers_L9 = some x := h
      unfold fX5_readsNumber_L9_b at h
      refine lv_iload_n hx hb dX5_readsNumber_9 rfl (lv_at hl 3 rfl) ?_
      refine lv_iload_n hx hb dX5_readsNumber_10 rfl (lv_at hl 2 rfl) ?_
      refine lv_icmp_ge (tgt := 69) hx hb dX5_readsNumber_11 (by decide) (fun hc5 => ?_) (fun hc5 => ?_)
      · have h := it_p hc5 h
        cases h
        exact kE _ _ rfl H locs ls hP hS (lv_sub hl [] rfl)
      · have h := it_n hc5 h
        refine lv_aload_n hx hb dX5_readsNumber_14 rfl (lv_at hl 0 rfl) ?_
        obtain ⟨r6, hk7, h⟩ := bd1_e h
        refine cV_i (rest := []) F (kX5_here l D cI cJ H.size g a_z a_z_s a_z_m a_z_image a_z_was a_z_letters a_z_row a_z_refused a_z_numbers z_hasImage z_letterMany z_rowMany z_reading_L9 z_seed z_letters r6 hk7) (cwV 0 hts gX5_readsNumber_X5_here rfl rfl rfl eVX5_here ⟨Nat.le_of_ble_eq_true rfl, Nat.le_of_ble_eq_true rfl⟩) [0, 1] hP hS (by decide) rfl rfl 0 rfl rfl rfl hl.1 (Nat.le_of_ble_eq_true rfl) ⟨Nat.le_refl _, Nat.le_refl _⟩ rfl dX5_readsNumber_15 (fun H locs hP hS => ?_)
        have hP : WD D A [(a_z, .inr (5, [.ref a_z_s, .ref a_z_m, .ref a_z_image, .ref a_z_was, .int z_hasImage, .ref a_z_letters, .ref a_z_row, .ref a_z_refused, .int z_letterMany, .int z_rowMany, .int z_reading_L9, .ref a_z_numbers, .int z_seed])), (a_z_letters, .inl (cI, 96, .inl z_letters)), (a_z_numbers, .inl (cI, 3, .inl z_numbers_L9))] H := hP
        refine lv_bipush (v := 48) hx hb dX5_readsNumber_18 (by decide) ?_
        refine lv_bipush (v := 57) hx hb dX5_readsNumber_20 (by decide) ?_
        obtain ⟨r8, hk9, h⟩ := bd1_e h
        refine cS_i (rest := []) F (kX5_isIn l D cI cJ H.size g r6 48 57 r8 hk9) (va_cwS 3 hts gX5_readsNumber_X5_isIn rfl rfl rfl eSX5_isIn ⟨Nat.le_of_ble_eq_true rfl, Nat.le_of_ble_eq_true rfl⟩) [] hP hS (by decide) rfl rfl rfl hl.1 (Nat.le_of_ble_eq_true rfl) ⟨Nat.le_refl _, Nat.le_refl _⟩ rfl dX5_readsNumber_22 (fun H locs hP hS => ?_)
        have hP : WD D A [(a_z, .inr (5, [.ref a_z_s, .ref a_z_m, .ref a_z_image, .ref a_z_was, .int z_hasImage, .ref a_z_letters, .ref a_z_row, .ref a_z_refused, .int z_letterMany, .int z_rowMany, .int z_reading_L9, .ref a_z_numbers, .int z_seed])), (a_z_letters, .inl (cI, 96, .inl z_letters)), (a_z_numbers, .inl (cI, 3, .inl z_numbers_L9))] H := hP
        refine lv_if_ne (tgt := 30) hx hb dX5_readsNumber_25 (by decide) (fun hc10 => ?_) (fun hc10 => ?_)
        · have h := it_n hc10 h
          refine lv_aload_n hx hb dX5_readsNumber_30 rfl (lv_at hl 0 rfl) ?_
          refine gt_X5_31 F iX5 (List.mem_cons_of_mem _ (List.mem_append_left _ (List.mem_of_getElem? (i := 0) rfl))) hP 0 rfl dX5_readsNumber_31 ?_
          refine lv_iload_n hx hb dX5_readsNumber_34 rfl (lv_at hl 1 rfl) ?_
          refine lv_bipush (v := 10) hx hb dX5_readsNumber_35 (by decide) ?_
          refine lv_aload_n hx hb dX5_readsNumber_37 rfl (lv_at hl 0 rfl) ?_
          refine gt_X5_31 F iX5 (List.mem_cons_of_mem _ (List.mem_append_left _ (List.mem_of_getElem? (i := 0) rfl))) hP 0 rfl dX5_readsNumber_38 ?_
          refine lv_iload_n hx hb dX5_readsNumber_41 rfl (lv_at hl 1 rfl) ?_
          obtain ⟨hg11, h⟩ := gd_e h
          refine r_ia F hP 2 rfl rfl hg11 dX5_readsNumber_42 ?_
          refine lv_imul hx hb dX5_readsNumber_43 ?_
          refine lv_aload_n hx hb dX5_readsNumber_44 rfl (lv_at hl 0 rfl) ?_
          obtain ⟨r12, hk13, h⟩ := bd1_e h
          refine cV_i (rest := [.int (10 * (z_numbers_L9 x1_L9.toNatClampNeg)), .int x1_L9, .ref a_z_numbers]) F (kX5_here l D cI cJ H.size g a_z a_z_s a_z_m a_z_image a_z_was a_z_letters a_z_row a_z_refused a_z_numbers z_hasImage z_letterMany z_rowMany z_reading_L9 z_seed z_letters r12 hk13) (cwV 0 hts gX5_readsNumber_X5_here rfl rfl rfl eVX5_here ⟨Nat.le_of_ble_eq_true rfl, Nat.le_of_ble_eq_true rfl⟩) [0, 1] hP hS (by decide) rfl rfl 0 rfl rfl rfl hl.1 (Nat.le_of_ble_eq_true rfl) ⟨Nat.le_refl _, Nat.le_refl _⟩ rfl dX5_readsNumber_45 (fun H locs hP hS => ?_)
          have hP : WD D A [(a_z, .inr (5, [.ref a_z_s, .ref a_z_m, .ref a_z_image, .ref a_z_was, .int z_hasImage, .ref a_z_letters, .ref a_z_row, .ref a_z_refused, .int z_letterMany, .int z_rowMany, .int z_reading_L9, .ref a_z_numbers, .int z_seed])), (a_z_letters, .inl (cI, 96, .inl z_letters)), (a_z_numbers, .inl (cI, 3, .inl z_numbers_L9))] H := hP
          refine lv_iadd hx hb dX5_readsNumber_48 ?_
          refine lv_bipush (v := 48) hx hb dX5_readsNumber_49 (by decide) ?_
          refine lv_isub hx hb dX5_readsNumber_51 ?_
          obtain ⟨hg14, h⟩ := gd_e h
          refine r_is F hP hS 2 rfl rfl hg14 dX5_readsNumber_52 (fun H locs hP hS => ?_)
          have hP : WD D A [(a_z, .inr (5, [.ref a_z_s, .ref a_z_m, .ref a_z_image, .ref a_z_was, .int z_hasImage, .ref a_z_letters, .ref a_z_row, .ref a_z_refused, .int z_letterMany, .int z_rowMany, .int z_reading_L9, .ref a_z_numbers, .int z_seed])), (a_z_letters, .inl (cI, 96, .inl z_letters)), (a_z_numbers, .inl (cI, 3, .inl (upd z_numbers_L9 x1_L9.toNatClampNeg (((10 * (z_numbers_L9 x1_L9.toNatClampNeg)) + r12) - 48))))] H := hP
          refine lv_aload_n hx hb dX5_readsNumber_53 rfl (lv_at hl 0 rfl) ?_
          refine lv_dup hx hb dX5_readsNumber_54 rfl ?_
          refine gt_X5_93 F iX5 (List.mem_cons_of_mem _ (List.mem_append_left _ (List.mem_of_getElem? (i := 1) rfl))) hP 0 rfl dX5_readsNumber_55 ?_
          refine lv_iconst (v := 1) hx hb dX5_readsNumber_58 (by decide) ?_
          refine lv_iadd hx hb dX5_readsNumber_59 ?_
          refine pt_X5_93 F iX5 (List.mem_cons_of_mem _ (List.mem_append_left _ (List.mem_of_getElem? (i := 1) rfl))) hP hS 0 rfl dX5_readsNumber_60 (fun H locs hP hS => ?_)
          have hP : WD D A [(a_z, .inr (5, [.ref a_z_s, .ref a_z_m, .ref a_z_image, .ref a_z_was, .int z_hasImage, .ref a_z_letters, .ref a_z_row, .ref a_z_refused, .int z_letterMany, .int z_rowMany, .int (z_reading_L9 + 1), .ref a_z_numbers, .int z_seed])), (a_z_letters, .inl (cI, 96, .inl z_letters)), (a_z_numbers, .inl (cI, 3, .inl (upd z_numbers_L9 x1_L9.toNatClampNeg (((10 * (z_numbers_L9 x1_L9.toNatClampNeg)) + r12) - 48))))] H := hP
          refine lv_iinc (v := x3_L9 + 1) (lv' := [(3, .int (x3_L9 + 1)), (0, .ref a_z), (1, .int x1_L9), (2, .int x2_L9)]) hx hb dX5_readsNumber_63 hl (k := 3) rfl rfl (by decide) rfl (fun ls hl => ?_)
          refine lv_goto (tgt := 9) hx hb dX5_readsNumber_66 (by decide) ?_
          exact ih (x3_L9 + 1) (z_reading_L9 + 1) (upd z_numbers_L9 x1_L9.toNatClampNeg (((10 * (z_numbers_L9 x1_L9.toNatClampNeg)) + r12) - 48)) x H locs ls h hP hS (lv_sub hl [1, 2, 3, 0] rfl) kE kR
        · have h := it_p hc10 h
          refine lv_iconst (v := 0) hx hb dX5_readsNumber_28 (by decide) ?_
          have h := kR _ (Option.some.inj h)
          exact hret 29 H locs ls 0 z_reading_L9 z_numbers_L9 h rfl dX5_readsNumber_29 hP hS
  have hl : lv_has ls 4 [(0, .ref a_z), (1, .int p0), (2, .int p1)] := hl
  have h := hf
  unfold fX5_readsNumber at h
  refine lv_aload_n hx hb dX5_readsNumber_0 rfl (lv_at hl 0 rfl) ?_
  refine gt_X5_31 F iX5 (List.mem_cons_of_mem _ (List.mem_append_left _ (List.mem_of_getElem? (i := 0) rfl))) hP 0 rfl dX5_readsNumber_1 ?_
  refine lv_iload_n hx hb dX5_readsNumber_4 rfl (lv_at hl 1 rfl) ?_
  refine lv_iconst (v := 0) hx hb dX5_readsNumber_5 (by decide) ?_
  obtain ⟨hg4, h⟩ := gd_e h
  refine r_is F hP hS 2 rfl rfl hg4 dX5_readsNumber_6 (fun H locs hP hS => ?_)
  have hP : WD D A [(a_z, .inr (5, [.ref a_z_s, .ref a_z_m, .ref a_z_image, .ref a_z_was, .int z_hasImage, .ref a_z_letters, .ref a_z_row, .ref a_z_refused, .int z_letterMany, .int z_rowMany, .int z_reading, .ref a_z_numbers, .int z_seed])), (a_z_letters, .inl (cI, 96, .inl z_letters)), (a_z_numbers, .inl (cI, 3, .inl (upd z_numbers p0.toNatClampNeg 0)))] H := hP
  refine lv_iconst (v := 0) hx hb dX5_readsNumber_7 (by decide) ?_
  refine lv_istore_n (lv' := [(3, .int 0), (0, .ref a_z), (1, .int p0), (2, .int p1)]) hx hb dX5_readsNumber_8 rfl hl (by decide) rfl (fun ls hl => ?_)
  obtain ⟨x18, hk17, x18a, x18b⟩ := bs2_e h
  refine L9 p0 p1 g 0 z_reading (upd z_numbers p0.toNatClampNeg 0) x18 H locs ls hk17 hP hS (lv_sub hl [1, 2, 3, 0] rfl) (fun t15 t16 he19 H locs ls hP hS hl => ?_) (fun q he19 => (x18b q he19.symm))
  have h := x18a t15 t16 he19.symm
  refine lv_iconst (v := 1) hx hb dX5_readsNumber_69 (by decide) ?_
  exact hret 70 H locs ls 1 t15 t16 h rfl dX5_readsNumber_70 hP hS
theorem eSX5_kindBy : yX5_kindBy.cls ≠ "java/lang/invoke/MethodHandle" ∧ yX5_kindBy.cls ≠ "java/lang/invoke/VarHandle" ∧ (parseMethodDescriptor yX5_kindBy.desc).map (fun d => d.parameters.length) = some 1 := by decide +kernel
theorem eVX5_kindBy : yX5_kindBy.cls = RX5 ∧ yX5_kindBy.cls ≠ "java/lang/invoke/MethodHandle" ∧ yX5_kindBy.cls ≠ "java/lang/invoke/VarHandle" ∧ (parseMethodDescriptor yX5_kindBy.desc).map (fun d => d.parameters.length) = some 1 := ⟨rfl, eSX5_kindBy⟩
abbrev rmX5_kindBy : Room := { frames := 0, cells := 0, slots := 0, locals := 0 }
def fX5_kindBy (g : Nat) (p0 : Int32) : Option (Int32) := if p0 = 98 then (some 1) else (if p0 = 100 then (some 5) else (if p0 = 104 then (some 0) else (if p0 = 109 then (some 2) else (if p0 = 113 then (some 4) else (if p0 = 119 then (some 3) else (some (-9)))))))
set_option maxHeartbeats 4000000 in
set_option maxRecDepth 100000 in
theorem kX5_kindBy (l : Launch) (D : va_G) (cI cJ : ClassId) (sz g : Nat) (p0 : Int32) (r : Int32) (hf : fX5_kindBy g p0 = some r) : Met l yX5_kindBy wsX5_kindBy rmX5_kindBy (va_Pc [.int p0] (sPc D (tyL cI cJ) [] sz)) (qI D (tyL cI cJ) [] sz [] r) 0 0 (va_A [] sz) := by
  refine st_i (cc := cX5_kindBy) (maxL := 1) (by decide) rfl (Nat.le_of_ble_eq_true rfl) ?_
  intro p e s m args below meth c A Q F hret0 H locs hP hS ls hl
  have F : Cx p s m args c cX5_kindBy 1 wsX5_kindBy RX5 D (tyL cI cJ) A := F
  have hx := F.1.1
  have hb := F.1.2.1
  have hown := F.1.2.2.2.1
  have hts := F.1.2.2.2.2
  have hret : ∀ (pc : Nat) (H : Heap) (locs : List Loc) (ls : Array Slot) (r' : Int32), some r' = some r → narrow .int (.int r') = .int r' → decode cX5_kindBy pc = .ok (.ireturn, 1) → WD D A [] H → va_S A s.heap H locs → W p l e rmX5_kindBy s m args below meth c H locs 0 0 Q (F0 m pc ls [.int r']) := by
    intro pc H locs ls r' h hn hd hP hS
    cases h
    exact hret0 pc H locs ls hn hd hP hS
  have hl : lv_has ls 1 [(0, .int p0)] := hl
  have h := hf
  unfold fX5_kindBy at h
  refine lv_iload_n hx hb dX5_kindBy_0 rfl (lv_at hl 0 rfl) ?_
  by_cases hc7 : p0 = 98
  · have h := it_p hc7 h
    refine lv_lookup (off := 61) (tgt := 62) hx hb dX5_kindBy_1 (by decide) (by rw [hc7]; decide) (by decide) ?_
    refine lv_iconst (v := 1) hx hb dX5_kindBy_62 (by decide) ?_
    exact hret 63 H locs ls 1 h rfl dX5_kindBy_63 hP hS
  · have h := it_n hc7 h
    by_cases hc8 : p0 = 100
    · have h := it_p hc8 h
      refine lv_lookup (off := 69) (tgt := 70) hx hb dX5_kindBy_1 (by decide) (by rw [hc8]; decide) (by decide) ?_
      refine lv_iconst (v := 5) hx hb dX5_kindBy_70 (by decide) ?_
      exact hret 71 H locs ls 5 h rfl dX5_kindBy_71 hP hS
    · have h := it_n hc8 h
      by_cases hc9 : p0 = 104
      · have h := it_p hc9 h
        refine lv_lookup (off := 59) (tgt := 60) hx hb dX5_kindBy_1 (by decide) (by rw [hc9]; decide) (by decide) ?_
        refine lv_iconst (v := 0) hx hb dX5_kindBy_60 (by decide) ?_
        exact hret 61 H locs ls 0 h rfl dX5_kindBy_61 hP hS
      · have h := it_n hc9 h
        by_cases hc10 : p0 = 109
        · have h := it_p hc10 h
          refine lv_lookup (off := 63) (tgt := 64) hx hb dX5_kindBy_1 (by decide) (by rw [hc10]; decide) (by decide) ?_
          refine lv_iconst (v := 2) hx hb dX5_kindBy_64 (by decide) ?_
          exact hret 65 H locs ls 2 h rfl dX5_kindBy_65 hP hS
        · have h := it_n hc10 h
          by_cases hc11 : p0 = 113
          · have h := it_p hc11 h
            refine lv_lookup (off := 67) (tgt := 68) hx hb dX5_kindBy_1 (by decide) (by rw [hc11]; decide) (by decide) ?_
            refine lv_iconst (v := 4) hx hb dX5_kindBy_68 (by decide) ?_
            exact hret 69 H locs ls 4 h rfl dX5_kindBy_69 hP hS
          · have h := it_n hc11 h
            by_cases hc12 : p0 = 119
            · have h := it_p hc12 h
              refine lv_lookup (off := 65) (tgt := 66) hx hb dX5_kindBy_1 (by decide) (by rw [hc12]; decide) (by decide) ?_
              refine lv_iconst (v := 3) hx hb dX5_kindBy_66 (by decide) ?_
              exact hret 67 H locs ls 3 h rfl dX5_kindBy_67 hP hS
            · have h := it_n hc12 h
              refine lv_lookup (off := 71) (tgt := 72) hx hb dX5_kindBy_1 (by decide) (by show Op.lookupswitch.offset [(98, 61), (100, 69), (104, 59), (109, 63), (113, 67), (119, 65)] 71 _ = 71; rw [lv_osw hc7 (by decide), lv_osw hc8 (by decide), lv_osw hc9 (by decide), lv_osw hc10 (by decide), lv_osw hc11 (by decide), lv_osw hc12 (by decide)]; rfl) (by decide) ?_
              refine lv_bipush (v := (-9)) hx hb dX5_kindBy_72 (by decide) ?_
              exact hret 74 H locs ls (-9) h rfl dX5_kindBy_74 hP hS
theorem eSX5_readsKind : yX5_readsKind.cls ≠ "java/lang/invoke/MethodHandle" ∧ yX5_readsKind.cls ≠ "java/lang/invoke/VarHandle" ∧ (parseMethodDescriptor yX5_readsKind.desc).map (fun d => d.parameters.length) = some 0 := by decide +kernel
theorem eVX5_readsKind : yX5_readsKind.cls = RX5 ∧ yX5_readsKind.cls ≠ "java/lang/invoke/MethodHandle" ∧ yX5_readsKind.cls ≠ "java/lang/invoke/VarHandle" ∧ (parseMethodDescriptor yX5_readsKind.desc).map (fun d => d.parameters.length) = some 0 := ⟨rfl, eSX5_readsKind⟩
abbrev rmX5_readsKind : Room := { frames := 1, cells := 0, slots := 0, locals := 20 }
def fX5_readsKind (g : Nat) (z_letterMany : Int32) (z_reading : Int32) (z_letters : Nat → Int32) (z_numbers : Nat → Int32) : Option (Int32 × Int32 × (Nat → Int32)) := bd1 (fX5_here g z_letterMany z_reading z_letters) fun r8 => (bd1 (fX5_kindBy g r8) fun r10 => (if 0 ≤ ((upd z_numbers 0 r10) 0) then (if ((upd z_numbers 0 r10) 0) < 0 then (some (0, z_reading + 1, upd z_numbers 0 r10)) else (some (1, z_reading + 1, upd z_numbers 0 r10))) else (if ((upd z_numbers 0 r10) 0) < 0 then (some (0, z_reading + 0, upd z_numbers 0 r10)) else (some (1, z_reading + 0, upd z_numbers 0 r10)))))
set_option maxHeartbeats 4000000 in
set_option maxRecDepth 100000 in
theorem kX5_readsKind (l : Launch) (D : va_G) (cI cJ : ClassId) (sz g : Nat) (a_z a_z_s a_z_m a_z_image a_z_was a_z_letters a_z_row a_z_refused a_z_numbers : Nat) (z_hasImage : Int32) (z_letterMany : Int32) (z_rowMany : Int32) (z_reading : Int32) (z_seed : Int32) (z_letters : Nat → Int32) (z_numbers : Nat → Int32) (r : Int32) (n_z_reading : Int32) (n_z_numbers : Nat → Int32) (hf : fX5_readsKind g z_letterMany z_reading z_letters z_numbers = some (r, n_z_reading, n_z_numbers)) : Met l yX5_readsKind wsX5_readsKind rmX5_readsKind (va_Pc [.ref a_z] (sPc D (tyL cI cJ) [(a_z, .inr (5, [.ref a_z_s, .ref a_z_m, .ref a_z_image, .ref a_z_was, .int z_hasImage, .ref a_z_letters, .ref a_z_row, .ref a_z_refused, .int z_letterMany, .int z_rowMany, .int z_reading, .ref a_z_numbers, .int z_seed])), (a_z_letters, .inl (cI, 96, .inl z_letters)), (a_z_numbers, .inl (cI, 3, .inl z_numbers))] sz)) (qI D (tyL cI cJ) [(a_z, .inr (5, [.ref a_z_s, .ref a_z_m, .ref a_z_image, .ref a_z_was, .int z_hasImage, .ref a_z_letters, .ref a_z_row, .ref a_z_refused, .int z_letterMany, .int z_rowMany, .int z_reading, .ref a_z_numbers, .int z_seed])), (a_z_letters, .inl (cI, 96, .inl z_letters)), (a_z_numbers, .inl (cI, 3, .inl z_numbers))] sz [(a_z, .inr (5, [.ref a_z_s, .ref a_z_m, .ref a_z_image, .ref a_z_was, .int z_hasImage, .ref a_z_letters, .ref a_z_row, .ref a_z_refused, .int z_letterMany, .int z_rowMany, .int n_z_reading, .ref a_z_numbers, .int z_seed])), (a_z_letters, .inl (cI, 96, .inl z_letters)), (a_z_numbers, .inl (cI, 3, .inl n_z_numbers))] r) 0 0 (va_A [(a_z, .inr (5, [.ref a_z_s, .ref a_z_m, .ref a_z_image, .ref a_z_was, .int z_hasImage, .ref a_z_letters, .ref a_z_row, .ref a_z_refused, .int z_letterMany, .int z_rowMany, .int z_reading, .ref a_z_numbers, .int z_seed])), (a_z_letters, .inl (cI, 96, .inl z_letters)), (a_z_numbers, .inl (cI, 3, .inl z_numbers))] sz) := by
  refine st_i (cc := cX5_readsKind) (maxL := 1) (by decide) rfl (Nat.le_of_ble_eq_true rfl) ?_
  intro p e s m args below meth c A Q F hret0 H locs hP hS ls hl
  have F : Cx p s m args c cX5_readsKind 1 wsX5_readsKind RX5 D (tyL cI cJ) A := F
  have hx := F.1.1
  have hb := F.1.2.1
  have hown := F.1.2.2.2.1
  have hts := F.1.2.2.2.2
  have iX5 : ∀ w ∈ wsX50, w ∈ wsX5_readsKind := fun w h => (List.mem_cons_of_mem _ (List.mem_append_right _ h))
  have hret : ∀ (pc : Nat) (H : Heap) (locs : List Loc) (ls : Array Slot) (r' : Int32) (m_z_reading : Int32) (m_z_numbers : Nat → Int32), some (r', m_z_reading, m_z_numbers) = some (r, n_z_reading, n_z_numbers) → narrow .boolean (.int r') = .int r' → decode cX5_readsKind pc = .ok (.ireturn, 1) → WD D A [(a_z, .inr (5, [.ref a_z_s, .ref a_z_m, .ref a_z_image, .ref a_z_was, .int z_hasImage, .ref a_z_letters, .ref a_z_row, .ref a_z_refused, .int z_letterMany, .int z_rowMany, .int m_z_reading, .ref a_z_numbers, .int z_seed])), (a_z_letters, .inl (cI, 96, .inl z_letters)), (a_z_numbers, .inl (cI, 3, .inl m_z_numbers))] H → va_S A s.heap H locs → W p l e rmX5_readsKind s m args below meth c H locs 0 0 Q (F0 m pc ls [.int r']) := by
    intro pc H locs ls r' m_z_reading m_z_numbers h hn hd hP hS
    cases h
    exact hret0 pc H locs ls hn hd hP hS
  have hl : lv_has ls 1 [(0, .ref a_z)] := hl
  have h := hf
  unfold fX5_readsKind at h
  refine lv_aload_n hx hb dX5_readsKind_0 rfl (lv_at hl 0 rfl) ?_
  refine gt_X5_31 F iX5 (List.mem_cons_of_mem _ (List.mem_append_left _ (List.mem_of_getElem? (i := 0) rfl))) hP 0 rfl dX5_readsKind_1 ?_
  refine lv_iconst (v := 0) hx hb dX5_readsKind_4 (by decide) ?_
  refine lv_aload_n hx hb dX5_readsKind_5 rfl (lv_at hl 0 rfl) ?_
  obtain ⟨r8, hk9, h⟩ := bd1_e h
  refine cV_i (rest := [.int 0, .ref a_z_numbers]) F (kX5_here l D cI cJ H.size g a_z a_z_s a_z_m a_z_image a_z_was a_z_letters a_z_row a_z_refused a_z_numbers z_hasImage z_letterMany z_rowMany z_reading z_seed z_letters r8 hk9) (cwV 0 hts gX5_readsKind_X5_here rfl rfl rfl eVX5_here ⟨Nat.le_of_ble_eq_true rfl, Nat.le_of_ble_eq_true rfl⟩) [0, 1] hP hS (by decide) rfl rfl 0 rfl rfl rfl hl.1 (Nat.le_of_ble_eq_true rfl) ⟨Nat.le_refl _, Nat.le_refl _⟩ rfl dX5_readsKind_6 (fun H locs hP hS => ?_)
  have hP : WD D A [(a_z, .inr (5, [.ref a_z_s, .ref a_z_m, .ref a_z_image, .ref a_z_was, .int z_hasImage, .ref a_z_letters, .ref a_z_row, .ref a_z_refused, .int z_letterMany, .int z_rowMany, .int z_reading, .ref a_z_numbers, .int z_seed])), (a_z_letters, .inl (cI, 96, .inl z_letters)), (a_z_numbers, .inl (cI, 3, .inl z_numbers))] H := hP
  obtain ⟨r10, hk11, h⟩ := bd1_e h
  refine cS_i (rest := [.int 0, .ref a_z_numbers]) F (kX5_kindBy l D cI cJ H.size g r8 r10 hk11) (va_cwS 1 hts gX5_readsKind_X5_kindBy rfl rfl rfl eSX5_kindBy ⟨Nat.le_of_ble_eq_true rfl, Nat.le_of_ble_eq_true rfl⟩) [] hP hS (by decide) rfl rfl rfl hl.1 (Nat.le_of_ble_eq_true rfl) ⟨Nat.le_refl _, Nat.le_refl _⟩ rfl dX5_readsKind_9 (fun H locs hP hS => ?_)
  have hP : WD D A [(a_z, .inr (5, [.ref a_z_s, .ref a_z_m, .ref a_z_image, .ref a_z_was, .int z_hasImage, .ref a_z_letters, .ref a_z_row, .ref a_z_refused, .int z_letterMany, .int z_rowMany, .int z_reading, .ref a_z_numbers, .int z_seed])), (a_z_letters, .inl (cI, 96, .inl z_letters)), (a_z_numbers, .inl (cI, 3, .inl z_numbers))] H := hP
  refine r_is F hP hS 2 rfl (j := 0) rfl (by decide) dX5_readsKind_12 (fun H locs hP hS => ?_)
  have hP : WD D A [(a_z, .inr (5, [.ref a_z_s, .ref a_z_m, .ref a_z_image, .ref a_z_was, .int z_hasImage, .ref a_z_letters, .ref a_z_row, .ref a_z_refused, .int z_letterMany, .int z_rowMany, .int z_reading, .ref a_z_numbers, .int z_seed])), (a_z_letters, .inl (cI, 96, .inl z_letters)), (a_z_numbers, .inl (cI, 3, .inl (upd z_numbers 0 r10)))] H := hP
  refine lv_aload_n hx hb dX5_readsKind_13 rfl (lv_at hl 0 rfl) ?_
  refine lv_dup hx hb dX5_readsKind_14 rfl ?_
  refine gt_X5_93 F iX5 (List.mem_cons_of_mem _ (List.mem_append_left _ (List.mem_of_getElem? (i := 1) rfl))) hP 0 rfl dX5_readsKind_15 ?_
  refine lv_aload_n hx hb dX5_readsKind_18 rfl (lv_at hl 0 rfl) ?_
  refine gt_X5_31 F iX5 (List.mem_cons_of_mem _ (List.mem_append_left _ (List.mem_of_getElem? (i := 0) rfl))) hP 0 rfl dX5_readsKind_19 ?_
  refine lv_iconst (v := 0) hx hb dX5_readsKind_22 (by decide) ?_
  refine r_ia F hP 2 rfl (j := 0) rfl (by decide) dX5_readsKind_23 ?_
  refine lv_if_ge (tgt := 31) hx hb dX5_readsKind_24 (by decide) (fun hc12 => ?_) (fun hc12 => ?_)
  · have h := it_p hc12 h
    refine lv_iconst (v := 1) hx hb dX5_readsKind_31 (by decide) ?_
    refine lv_iadd hx hb dX5_readsKind_32 ?_
    refine pt_X5_93 F iX5 (List.mem_cons_of_mem _ (List.mem_append_left _ (List.mem_of_getElem? (i := 1) rfl))) hP hS 0 rfl dX5_readsKind_33 (fun H locs hP hS => ?_)
    have hP : WD D A [(a_z, .inr (5, [.ref a_z_s, .ref a_z_m, .ref a_z_image, .ref a_z_was, .int z_hasImage, .ref a_z_letters, .ref a_z_row, .ref a_z_refused, .int z_letterMany, .int z_rowMany, .int (z_reading + 1), .ref a_z_numbers, .int z_seed])), (a_z_letters, .inl (cI, 96, .inl z_letters)), (a_z_numbers, .inl (cI, 3, .inl (upd z_numbers 0 r10)))] H := hP
    refine lv_aload_n hx hb dX5_readsKind_36 rfl (lv_at hl 0 rfl) ?_
    refine gt_X5_31 F iX5 (List.mem_cons_of_mem _ (List.mem_append_left _ (List.mem_of_getElem? (i := 0) rfl))) hP 0 rfl dX5_readsKind_37 ?_
    refine lv_iconst (v := 0) hx hb dX5_readsKind_40 (by decide) ?_
    refine r_ia F hP 2 rfl (j := 0) rfl (by decide) dX5_readsKind_41 ?_
    refine lv_if_lt (tgt := 49) hx hb dX5_readsKind_42 (by decide) (fun hc13 => ?_) (fun hc13 => ?_)
    · have h := it_p hc13 h
      refine lv_iconst (v := 0) hx hb dX5_readsKind_49 (by decide) ?_
      exact hret 50 H locs ls 0 (z_reading + 1) (upd z_numbers 0 r10) h rfl dX5_readsKind_50 hP hS
    · have h := it_n hc13 h
      refine lv_iconst (v := 1) hx hb dX5_readsKind_45 (by decide) ?_
      refine lv_goto (tgt := 50) hx hb dX5_readsKind_46 (by decide) ?_
      exact hret 50 H locs ls 1 (z_reading + 1) (upd z_numbers 0 r10) h rfl dX5_readsKind_50 hP hS
  · have h := it_n hc12 h
    refine lv_iconst (v := 0) hx hb dX5_readsKind_27 (by decide) ?_
    refine lv_goto (tgt := 32) hx hb dX5_readsKind_28 (by decide) ?_
    refine lv_iadd hx hb dX5_readsKind_32 ?_
    refine pt_X5_93 F iX5 (List.mem_cons_of_mem _ (List.mem_append_left _ (List.mem_of_getElem? (i := 1) rfl))) hP hS 0 rfl dX5_readsKind_33 (fun H locs hP hS => ?_)
    have hP : WD D A [(a_z, .inr (5, [.ref a_z_s, .ref a_z_m, .ref a_z_image, .ref a_z_was, .int z_hasImage, .ref a_z_letters, .ref a_z_row, .ref a_z_refused, .int z_letterMany, .int z_rowMany, .int (z_reading + 0), .ref a_z_numbers, .int z_seed])), (a_z_letters, .inl (cI, 96, .inl z_letters)), (a_z_numbers, .inl (cI, 3, .inl (upd z_numbers 0 r10)))] H := hP
    refine lv_aload_n hx hb dX5_readsKind_36 rfl (lv_at hl 0 rfl) ?_
    refine gt_X5_31 F iX5 (List.mem_cons_of_mem _ (List.mem_append_left _ (List.mem_of_getElem? (i := 0) rfl))) hP 0 rfl dX5_readsKind_37 ?_
    refine lv_iconst (v := 0) hx hb dX5_readsKind_40 (by decide) ?_
    refine r_ia F hP 2 rfl (j := 0) rfl (by decide) dX5_readsKind_41 ?_
    refine lv_if_lt (tgt := 49) hx hb dX5_readsKind_42 (by decide) (fun hc14 => ?_) (fun hc14 => ?_)
    · have h := it_p hc14 h
      refine lv_iconst (v := 0) hx hb dX5_readsKind_49 (by decide) ?_
      exact hret 50 H locs ls 0 (z_reading + 0) (upd z_numbers 0 r10) h rfl dX5_readsKind_50 hP hS
    · have h := it_n hc14 h
      refine lv_iconst (v := 1) hx hb dX5_readsKind_45 (by decide) ?_
      refine lv_goto (tgt := 50) hx hb dX5_readsKind_46 (by decide) ?_
      exact hret 50 H locs ls 1 (z_reading + 0) (upd z_numbers 0 r10) h rfl dX5_readsKind_50 hP hS
theorem eSX5_readsStatement : yX5_readsStatement.cls ≠ "java/lang/invoke/MethodHandle" ∧ yX5_readsStatement.cls ≠ "java/lang/invoke/VarHandle" ∧ (parseMethodDescriptor yX5_readsStatement.desc).map (fun d => d.parameters.length) = some 0 := by decide +kernel
theorem eVX5_readsStatement : yX5_readsStatement.cls = RX5 ∧ yX5_readsStatement.cls ≠ "java/lang/invoke/MethodHandle" ∧ yX5_readsStatement.cls ≠ "java/lang/invoke/VarHandle" ∧ (parseMethodDescriptor yX5_readsStatement.desc).map (fun d => d.parameters.length) = some 0 := ⟨rfl, eSX5_readsStatement⟩
abbrev rmX5_readsStatement : Room := { frames := 2, cells := 0, slots := 0, locals := 45 }
def fX5_readsStatement (g : Nat) (z_letterMany : Int32) (z_reading : Int32) (z_letters : Nat → Int32) (z_numbers : Nat → Int32) : Option (Int32 × Int32 × (Nat → Int32)) := bd1 (fX5_here g z_letterMany z_reading z_letters) fun r103 => (if r103 = 97 then (bd3 (fX5_readsNumber g 0 1 z_letterMany (z_reading + 1) z_letters z_numbers) fun r197 z_reading_198 z_numbers_199 => (if r197 = 0 then (some (0, z_reading_198, z_numbers_199)) else (bd1 (fX5_here g z_letterMany z_reading_198 z_letters) fun r202 => (if r202 = 59 then (some (1, z_reading_198 + 1, z_numbers_199)) else (some (0, z_reading_198, z_numbers_199)))))) else (if r103 = 100 then (bd3 (fX5_readsNumber g 0 2 z_letterMany (z_reading + 1) z_letters z_numbers) fun r189 z_reading_190 z_numbers_191 => (if r189 = 0 then (some (0, z_reading_190, z_numbers_191)) else (bd1 (fX5_here g z_letterMany z_reading_190 z_letters) fun r194 => (if r194 = 59 then (some (1, z_reading_190 + 1, z_numbers_191)) else (some (0, z_reading_190, z_numbers_191)))))) else (if r103 = 104 then (bd3 (fX5_readsKind g z_letterMany (z_reading + 1) z_letters z_numbers) fun r158 z_reading_159 z_numbers_160 => (if r158 = 0 then (if (0 : Int32) = 0 then (some (0, z_reading_159, z_numbers_160)) else (bd1 (fX5_here g z_letterMany z_reading_159 z_letters) fun r164 => (if r164 = 59 then (some (1, z_reading_159 + 1, z_numbers_160)) else (some (0, z_reading_159, z_numbers_160))))) else (bd3 (fX5_readsNumber g 1 1 z_letterMany z_reading_159 z_letters z_numbers_160) fun r167 z_reading_168 z_numbers_169 => (if r167 = 0 then (if (0 : Int32) = 0 then (some (0, z_reading_168, z_numbers_169)) else (bd1 (fX5_here g z_letterMany z_reading_168 z_letters) fun r173 => (if r173 = 59 then (some (1, z_reading_168 + 1, z_numbers_169)) else (some (0, z_reading_168, z_numbers_169))))) else (bd3 (fX5_readsNumber g 2 1 z_letterMany z_reading_168 z_letters z_numbers_169) fun r176 z_reading_177 z_numbers_178 => (if r176 = 0 then (if (0 : Int32) = 0 then (some (0, z_reading_177, z_numbers_178)) else (bd1 (fX5_here g z_letterMany z_reading_177 z_letters) fun r182 => (if r182 = 59 then (some (1, z_reading_177 + 1, z_numbers_178)) else (some (0, z_reading_177, z_numbers_178))))) else (if (1 : Int32) = 0 then (some (0, z_reading_177, z_numbers_178)) else (bd1 (fX5_here g z_letterMany z_reading_177 z_letters) fun r186 => (if r186 = 59 then (some (1, z_reading_177 + 1, z_numbers_178)) else (some (0, z_reading_177, z_numbers_178))))))))))) else (if r103 = 108 then (bd3 (fX5_readsNumber g 0 1 z_letterMany (z_reading + 1) z_letters z_numbers) fun r150 z_reading_151 z_numbers_152 => (if r150 = 0 then (some (0, z_reading_151, z_numbers_152)) else (bd1 (fX5_here g z_letterMany z_reading_151 z_letters) fun r155 => (if r155 = 59 then (some (1, z_reading_151 + 1, z_numbers_152)) else (some (0, z_reading_151, z_numbers_152)))))) else (if r103 = 109 then (bd3 (fX5_readsNumber g 0 1 z_letterMany (z_reading + 1) z_letters z_numbers) fun r128 z_reading_129 z_numbers_130 => (if r128 = 0 then (if (0 : Int32) = 0 then (some (0, z_reading_129, z_numbers_130)) else (bd1 (fX5_here g z_letterMany z_reading_129 z_letters) fun r134 => (if r134 = 59 then (some (1, z_reading_129 + 1, z_numbers_130)) else (some (0, z_reading_129, z_numbers_130))))) else (bd3 (fX5_readsNumber g 1 1 z_letterMany z_reading_129 z_letters z_numbers_130) fun r137 z_reading_138 z_numbers_139 => (if r137 = 0 then (if (0 : Int32) = 0 then (some (0, z_reading_138, z_numbers_139)) else (bd1 (fX5_here g z_letterMany z_reading_138 z_letters) fun r143 => (if r143 = 59 then (some (1, z_reading_138 + 1, z_numbers_139)) else (some (0, z_reading_138, z_numbers_139))))) else (if (1 : Int32) = 0 then (some (0, z_reading_138, z_numbers_139)) else (bd1 (fX5_here g z_letterMany z_reading_138 z_letters) fun r147 => (if r147 = 59 then (some (1, z_reading_138 + 1, z_numbers_139)) else (some (0, z_reading_138, z_numbers_139))))))))) else (if r103 = 112 then (bd3 (fX5_readsNumber g 0 2 z_letterMany (z_reading + 1) z_letters z_numbers) fun r120 z_reading_121 z_numbers_122 => (if r120 = 0 then (some (0, z_reading_121, z_numbers_122)) else (bd1 (fX5_here g z_letterMany z_reading_121 z_letters) fun r125 => (if r125 = 59 then (some (1, z_reading_121 + 1, z_numbers_122)) else (some (0, z_reading_121, z_numbers_122)))))) else (if r103 = 115 then (bd3 (fX5_readsNumber g 0 2 z_letterMany (z_reading + 1) z_letters z_numbers) fun r112 z_reading_113 z_numbers_114 => (if r112 = 0 then (some (0, z_reading_113, z_numbers_114)) else (bd1 (fX5_here g z_letterMany z_reading_113 z_letters) fun r117 => (if r117 = 59 then (some (1, z_reading_113 + 1, z_numbers_114)) else (some (0, z_reading_113, z_numbers_114)))))) else (some (0, (z_reading + 1) - 1, z_numbers)))))))))
set_option maxHeartbeats 4000000 in
set_option maxRecDepth 100000 in
theorem kX5_readsStatement (l : Launch) (D : va_G) (cI cJ : ClassId) (sz g : Nat) (a_z a_z_s a_z_m a_z_image a_z_was a_z_letters a_z_row a_z_refused a_z_numbers : Nat) (z_hasImage : Int32) (z_letterMany : Int32) (z_rowMany : Int32) (z_reading : Int32) (z_seed : Int32) (z_letters : Nat → Int32) (z_numbers : Nat → Int32) (r : Int32) (n_z_reading : Int32) (n_z_numbers : Nat → Int32) (hf : fX5_readsStatement g z_letterMany z_reading z_letters z_numbers = some (r, n_z_reading, n_z_numbers)) : Met l yX5_readsStatement wsX5_readsStatement rmX5_readsStatement (va_Pc [.ref a_z] (sPc D (tyL cI cJ) [(a_z, .inr (5, [.ref a_z_s, .ref a_z_m, .ref a_z_image, .ref a_z_was, .int z_hasImage, .ref a_z_letters, .ref a_z_row, .ref a_z_refused, .int z_letterMany, .int z_rowMany, .int z_reading, .ref a_z_numbers, .int z_seed])), (a_z_letters, .inl (cI, 96, .inl z_letters)), (a_z_numbers, .inl (cI, 3, .inl z_numbers))] sz)) (qI D (tyL cI cJ) [(a_z, .inr (5, [.ref a_z_s, .ref a_z_m, .ref a_z_image, .ref a_z_was, .int z_hasImage, .ref a_z_letters, .ref a_z_row, .ref a_z_refused, .int z_letterMany, .int z_rowMany, .int z_reading, .ref a_z_numbers, .int z_seed])), (a_z_letters, .inl (cI, 96, .inl z_letters)), (a_z_numbers, .inl (cI, 3, .inl z_numbers))] sz [(a_z, .inr (5, [.ref a_z_s, .ref a_z_m, .ref a_z_image, .ref a_z_was, .int z_hasImage, .ref a_z_letters, .ref a_z_row, .ref a_z_refused, .int z_letterMany, .int z_rowMany, .int n_z_reading, .ref a_z_numbers, .int z_seed])), (a_z_letters, .inl (cI, 96, .inl z_letters)), (a_z_numbers, .inl (cI, 3, .inl n_z_numbers))] r) 0 0 (va_A [(a_z, .inr (5, [.ref a_z_s, .ref a_z_m, .ref a_z_image, .ref a_z_was, .int z_hasImage, .ref a_z_letters, .ref a_z_row, .ref a_z_refused, .int z_letterMany, .int z_rowMany, .int z_reading, .ref a_z_numbers, .int z_seed])), (a_z_letters, .inl (cI, 96, .inl z_letters)), (a_z_numbers, .inl (cI, 3, .inl z_numbers))] sz) := by
  refine st_i (cc := cX5_readsStatement) (maxL := 3) (by decide) rfl (Nat.le_of_ble_eq_true rfl) ?_
  intro p e s m args below meth c A Q F hret0 H locs hP hS ls hl
  have F : Cx p s m args c cX5_readsStatement 3 wsX5_readsStatement RX5 D (tyL cI cJ) A := F
  have hx := F.1.1
  have hb := F.1.2.1
  have hown := F.1.2.2.2.1
  have hts := F.1.2.2.2.2
  have iX5 : ∀ w ∈ wsX50, w ∈ wsX5_readsStatement := fun w h => (List.mem_cons_of_mem _ (List.mem_append_right _ h))
  have hret : ∀ (pc : Nat) (H : Heap) (locs : List Loc) (ls : Array Slot) (r' : Int32) (m_z_reading : Int32) (m_z_numbers : Nat → Int32), some (r', m_z_reading, m_z_numbers) = some (r, n_z_reading, n_z_numbers) → narrow .boolean (.int r') = .int r' → decode cX5_readsStatement pc = .ok (.ireturn, 1) → WD D A [(a_z, .inr (5, [.ref a_z_s, .ref a_z_m, .ref a_z_image, .ref a_z_was, .int z_hasImage, .ref a_z_letters, .ref a_z_row, .ref a_z_refused, .int z_letterMany, .int z_rowMany, .int m_z_reading, .ref a_z_numbers, .int z_seed])), (a_z_letters, .inl (cI, 96, .inl z_letters)), (a_z_numbers, .inl (cI, 3, .inl m_z_numbers))] H → va_S A s.heap H locs → W p l e rmX5_readsStatement s m args below meth c H locs 0 0 Q (F0 m pc ls [.int r']) := by
    intro pc H locs ls r' m_z_reading m_z_numbers h hn hd hP hS
    cases h
    exact hret0 pc H locs ls hn hd hP hS
  have hl : lv_has ls 3 [(0, .ref a_z)] := hl
  have h := hf
  unfold fX5_readsStatement at h
  refine lv_aload_n hx hb dX5_readsStatement_0 rfl (lv_at hl 0 rfl) ?_
  obtain ⟨r103, hk104, h⟩ := bd1_e h
  refine cV_i (rest := []) F (kX5_here l D cI cJ H.size g a_z a_z_s a_z_m a_z_image a_z_was a_z_letters a_z_row a_z_refused a_z_numbers z_hasImage z_letterMany z_rowMany z_reading z_seed z_letters r103 hk104) (cwV 0 hts gX5_readsStatement_X5_here rfl rfl rfl eVX5_here ⟨Nat.le_of_ble_eq_true rfl, Nat.le_of_ble_eq_true rfl⟩) [0, 1] hP hS (by decide) rfl rfl 0 rfl rfl rfl hl.1 (Nat.le_of_ble_eq_true rfl) ⟨Nat.le_refl _, Nat.le_refl _⟩ rfl dX5_readsStatement_1 (fun H locs hP hS => ?_)
  have hP : WD D A [(a_z, .inr (5, [.ref a_z_s, .ref a_z_m, .ref a_z_image, .ref a_z_was, .int z_hasImage, .ref a_z_letters, .ref a_z_row, .ref a_z_refused, .int z_letterMany, .int z_rowMany, .int z_reading, .ref a_z_numbers, .int z_seed])), (a_z_letters, .inl (cI, 96, .inl z_letters)), (a_z_numbers, .inl (cI, 3, .inl z_numbers))] H := hP
  refine lv_istore_n (lv' := [(1, .int r103), (0, .ref a_z)]) hx hb dX5_readsStatement_4 rfl hl (by decide) rfl (fun ls hl => ?_)
  refine lv_aload_n hx hb dX5_readsStatement_5 rfl (lv_at hl 1 rfl) ?_
  refine lv_dup hx hb dX5_readsStatement_6 rfl ?_
  refine gt_X5_93 F iX5 (List.mem_cons_of_mem _ (List.mem_append_left _ (List.mem_of_getElem? (i := 0) rfl))) hP 0 rfl dX5_readsStatement_7 ?_
  refine lv_iconst (v := 1) hx hb dX5_readsStatement_10 (by decide) ?_
  refine lv_iadd hx hb dX5_readsStatement_11 ?_
  refine pt_X5_93 F iX5 (List.mem_cons_of_mem _ (List.mem_append_left _ (List.mem_of_getElem? (i := 0) rfl))) hP hS 0 rfl dX5_readsStatement_12 (fun H locs hP hS => ?_)
  have hP : WD D A [(a_z, .inr (5, [.ref a_z_s, .ref a_z_m, .ref a_z_image, .ref a_z_was, .int z_hasImage, .ref a_z_letters, .ref a_z_row, .ref a_z_refused, .int z_letterMany, .int z_rowMany, .int (z_reading + 1), .ref a_z_numbers, .int z_seed])), (a_z_letters, .inl (cI, 96, .inl z_letters)), (a_z_numbers, .inl (cI, 3, .inl z_numbers))] H := hP
  refine lv_iload_n hx hb dX5_readsStatement_15 rfl (lv_at hl 0 rfl) ?_
  by_cases hc105 : r103 = 97
  · have h := it_p hc105 h
    refine lv_tableIn (off := 136) (tgt := 152) hx hb dX5_readsStatement_16 (by rw [hc105]; decide) (by rw [hc105]; decide) (by rw [hc105]; rfl) (by decide) ?_
    refine lv_aload_n hx hb dX5_readsStatement_152 rfl (lv_at hl 1 rfl) ?_
    refine lv_iconst (v := 0) hx hb dX5_readsStatement_153 (by decide) ?_
    refine lv_iconst (v := 1) hx hb dX5_readsStatement_154 (by decide) ?_
    obtain ⟨r197, z_reading_198, z_numbers_199, hk200, h⟩ := bd3_e h
    refine cV_i (rest := []) F (kX5_readsNumber l D cI cJ H.size g a_z a_z_s a_z_m a_z_image a_z_was a_z_letters a_z_row a_z_refused a_z_numbers z_hasImage z_letterMany z_rowMany (z_reading + 1) z_seed z_letters z_numbers 0 1 r197 z_reading_198 z_numbers_199 hk200) (cwV 2 hts gX5_readsStatement_X5_readsNumber rfl rfl rfl eVX5_readsNumber ⟨Nat.le_of_ble_eq_true rfl, Nat.le_of_ble_eq_true rfl⟩) [0, 1, 2] hP hS (by decide) rfl rfl 0 rfl rfl rfl hl.1 (Nat.le_of_ble_eq_true rfl) ⟨Nat.le_refl _, Nat.le_refl _⟩ rfl dX5_readsStatement_155 (fun H locs hP hS => ?_)
    have hP : WD D A [(a_z, .inr (5, [.ref a_z_s, .ref a_z_m, .ref a_z_image, .ref a_z_was, .int z_hasImage, .ref a_z_letters, .ref a_z_row, .ref a_z_refused, .int z_letterMany, .int z_rowMany, .int z_reading_198, .ref a_z_numbers, .int z_seed])), (a_z_letters, .inl (cI, 96, .inl z_letters)), (a_z_numbers, .inl (cI, 3, .inl z_numbers_199))] H := hP
    refine lv_istore_n (lv' := [(2, .int r197), (1, .int r103), (0, .ref a_z)]) hx hb dX5_readsStatement_158 rfl hl (by decide) rfl (fun ls hl => ?_)
    refine lv_goto (tgt := 201) hx hb dX5_readsStatement_159 (by decide) ?_
    refine lv_iload_n hx hb dX5_readsStatement_201 rfl (lv_at hl 0 rfl) ?_
    refine lv_if_eq (tgt := 214) hx hb dX5_readsStatement_202 (by decide) (fun hc201 => ?_) (fun hc201 => ?_)
    · have h := it_p hc201 h
      refine lv_iconst (v := 0) hx hb dX5_readsStatement_214 (by decide) ?_
      exact hret 215 H locs ls 0 z_reading_198 z_numbers_199 h rfl dX5_readsStatement_215 hP hS
    · have h := it_n hc201 h
      refine lv_aload_n hx hb dX5_readsStatement_205 rfl (lv_at hl 2 rfl) ?_
      obtain ⟨r202, hk203, h⟩ := bd1_e h
      refine cV_i (rest := []) F (kX5_here l D cI cJ H.size g a_z a_z_s a_z_m a_z_image a_z_was a_z_letters a_z_row a_z_refused a_z_numbers z_hasImage z_letterMany z_rowMany z_reading_198 z_seed z_letters r202 hk203) (cwV 0 hts gX5_readsStatement_X5_here rfl rfl rfl eVX5_here ⟨Nat.le_of_ble_eq_true rfl, Nat.le_of_ble_eq_true rfl⟩) [0, 1] hP hS (by decide) rfl rfl 0 rfl rfl rfl hl.1 (Nat.le_of_ble_eq_true rfl) ⟨Nat.le_refl _, Nat.le_refl _⟩ rfl dX5_readsStatement_206 (fun H locs hP hS => ?_)
      have hP : WD D A [(a_z, .inr (5, [.ref a_z_s, .ref a_z_m, .ref a_z_image, .ref a_z_was, .int z_hasImage, .ref a_z_letters, .ref a_z_row, .ref a_z_refused, .int z_letterMany, .int z_rowMany, .int z_reading_198, .ref a_z_numbers, .int z_seed])), (a_z_letters, .inl (cI, 96, .inl z_letters)), (a_z_numbers, .inl (cI, 3, .inl z_numbers_199))] H := hP
      refine lv_bipush (v := 59) hx hb dX5_readsStatement_209 (by decide) ?_
      refine lv_icmp_eq (tgt := 216) hx hb dX5_readsStatement_211 (by decide) (fun hc204 => ?_) (fun hc204 => ?_)
      · have h := it_p hc204 h
        refine lv_aload_n hx hb dX5_readsStatement_216 rfl (lv_at hl 2 rfl) ?_
        refine lv_dup hx hb dX5_readsStatement_217 rfl ?_
        refine gt_X5_93 F iX5 (List.mem_cons_of_mem _ (List.mem_append_left _ (List.mem_of_getElem? (i := 0) rfl))) hP 0 rfl dX5_readsStatement_218 ?_
        refine lv_iconst (v := 1) hx hb dX5_readsStatement_221 (by decide) ?_
        refine lv_iadd hx hb dX5_readsStatement_222 ?_
        refine pt_X5_93 F iX5 (List.mem_cons_of_mem _ (List.mem_append_left _ (List.mem_of_getElem? (i := 0) rfl))) hP hS 0 rfl dX5_readsStatement_223 (fun H locs hP hS => ?_)
        have hP : WD D A [(a_z, .inr (5, [.ref a_z_s, .ref a_z_m, .ref a_z_image, .ref a_z_was, .int z_hasImage, .ref a_z_letters, .ref a_z_row, .ref a_z_refused, .int z_letterMany, .int z_rowMany, .int (z_reading_198 + 1), .ref a_z_numbers, .int z_seed])), (a_z_letters, .inl (cI, 96, .inl z_letters)), (a_z_numbers, .inl (cI, 3, .inl z_numbers_199))] H := hP
        refine lv_iconst (v := 1) hx hb dX5_readsStatement_226 (by decide) ?_
        exact hret 227 H locs ls 1 (z_reading_198 + 1) z_numbers_199 h rfl dX5_readsStatement_227 hP hS
      · have h := it_n hc204 h
        refine lv_iconst (v := 0) hx hb dX5_readsStatement_214 (by decide) ?_
        exact hret 215 H locs ls 0 z_reading_198 z_numbers_199 h rfl dX5_readsStatement_215 hP hS
  · have h := it_n hc105 h
    by_cases hc106 : r103 = 100
    · have h := it_p hc106 h
      refine lv_tableIn (off := 92) (tgt := 108) hx hb dX5_readsStatement_16 (by rw [hc106]; decide) (by rw [hc106]; decide) (by rw [hc106]; rfl) (by decide) ?_
      refine lv_aload_n hx hb dX5_readsStatement_108 rfl (lv_at hl 1 rfl) ?_
      refine lv_iconst (v := 0) hx hb dX5_readsStatement_109 (by decide) ?_
      refine lv_iconst (v := 2) hx hb dX5_readsStatement_110 (by decide) ?_
      obtain ⟨r189, z_reading_190, z_numbers_191, hk192, h⟩ := bd3_e h
      refine cV_i (rest := []) F (kX5_readsNumber l D cI cJ H.size g a_z a_z_s a_z_m a_z_image a_z_was a_z_letters a_z_row a_z_refused a_z_numbers z_hasImage z_letterMany z_rowMany (z_reading + 1) z_seed z_letters z_numbers 0 2 r189 z_reading_190 z_numbers_191 hk192) (cwV 2 hts gX5_readsStatement_X5_readsNumber rfl rfl rfl eVX5_readsNumber ⟨Nat.le_of_ble_eq_true rfl, Nat.le_of_ble_eq_true rfl⟩) [0, 1, 2] hP hS (by decide) rfl rfl 0 rfl rfl rfl hl.1 (Nat.le_of_ble_eq_true rfl) ⟨Nat.le_refl _, Nat.le_refl _⟩ rfl dX5_readsStatement_111 (fun H locs hP hS => ?_)
      have hP : WD D A [(a_z, .inr (5, [.ref a_z_s, .ref a_z_m, .ref a_z_image, .ref a_z_was, .int z_hasImage, .ref a_z_letters, .ref a_z_row, .ref a_z_refused, .int z_letterMany, .int z_rowMany, .int z_reading_190, .ref a_z_numbers, .int z_seed])), (a_z_letters, .inl (cI, 96, .inl z_letters)), (a_z_numbers, .inl (cI, 3, .inl z_numbers_191))] H := hP
      refine lv_istore_n (lv' := [(2, .int r189), (1, .int r103), (0, .ref a_z)]) hx hb dX5_readsStatement_114 rfl hl (by decide) rfl (fun ls hl => ?_)
      refine lv_goto (tgt := 201) hx hb dX5_readsStatement_115 (by decide) ?_
      refine lv_iload_n hx hb dX5_readsStatement_201 rfl (lv_at hl 0 rfl) ?_
      refine lv_if_eq (tgt := 214) hx hb dX5_readsStatement_202 (by decide) (fun hc193 => ?_) (fun hc193 => ?_)
      · have h := it_p hc193 h
        refine lv_iconst (v := 0) hx hb dX5_readsStatement_214 (by decide) ?_
        exact hret 215 H locs ls 0 z_reading_190 z_numbers_191 h rfl dX5_readsStatement_215 hP hS
      · have h := it_n hc193 h
        refine lv_aload_n hx hb dX5_readsStatement_205 rfl (lv_at hl 2 rfl) ?_
        obtain ⟨r194, hk195, h⟩ := bd1_e h
        refine cV_i (rest := []) F (kX5_here l D cI cJ H.size g a_z a_z_s a_z_m a_z_image a_z_was a_z_letters a_z_row a_z_refused a_z_numbers z_hasImage z_letterMany z_rowMany z_reading_190 z_seed z_letters r194 hk195) (cwV 0 hts gX5_readsStatement_X5_here rfl rfl rfl eVX5_here ⟨Nat.le_of_ble_eq_true rfl, Nat.le_of_ble_eq_true rfl⟩) [0, 1] hP hS (by decide) rfl rfl 0 rfl rfl rfl hl.1 (Nat.le_of_ble_eq_true rfl) ⟨Nat.le_refl _, Nat.le_refl _⟩ rfl dX5_readsStatement_206 (fun H locs hP hS => ?_)
        have hP : WD D A [(a_z, .inr (5, [.ref a_z_s, .ref a_z_m, .ref a_z_image, .ref a_z_was, .int z_hasImage, .ref a_z_letters, .ref a_z_row, .ref a_z_refused, .int z_letterMany, .int z_rowMany, .int z_reading_190, .ref a_z_numbers, .int z_seed])), (a_z_letters, .inl (cI, 96, .inl z_letters)), (a_z_numbers, .inl (cI, 3, .inl z_numbers_191))] H := hP
        refine lv_bipush (v := 59) hx hb dX5_readsStatement_209 (by decide) ?_
        refine lv_icmp_eq (tgt := 216) hx hb dX5_readsStatement_211 (by decide) (fun hc196 => ?_) (fun hc196 => ?_)
        · have h := it_p hc196 h
          refine lv_aload_n hx hb dX5_readsStatement_216 rfl (lv_at hl 2 rfl) ?_
          refine lv_dup hx hb dX5_readsStatement_217 rfl ?_
          refine gt_X5_93 F iX5 (List.mem_cons_of_mem _ (List.mem_append_left _ (List.mem_of_getElem? (i := 0) rfl))) hP 0 rfl dX5_readsStatement_218 ?_
          refine lv_iconst (v := 1) hx hb dX5_readsStatement_221 (by decide) ?_
          refine lv_iadd hx hb dX5_readsStatement_222 ?_
          refine pt_X5_93 F iX5 (List.mem_cons_of_mem _ (List.mem_append_left _ (List.mem_of_getElem? (i := 0) rfl))) hP hS 0 rfl dX5_readsStatement_223 (fun H locs hP hS => ?_)
          have hP : WD D A [(a_z, .inr (5, [.ref a_z_s, .ref a_z_m, .ref a_z_image, .ref a_z_was, .int z_hasImage, .ref a_z_letters, .ref a_z_row, .ref a_z_refused, .int z_letterMany, .int z_rowMany, .int (z_reading_190 + 1), .ref a_z_numbers, .int z_seed])), (a_z_letters, .inl (cI, 96, .inl z_letters)), (a_z_numbers, .inl (cI, 3, .inl z_numbers_191))] H := hP
          refine lv_iconst (v := 1) hx hb dX5_readsStatement_226 (by decide) ?_
          exact hret 227 H locs ls 1 (z_reading_190 + 1) z_numbers_191 h rfl dX5_readsStatement_227 hP hS
        · have h := it_n hc196 h
          refine lv_iconst (v := 0) hx hb dX5_readsStatement_214 (by decide) ?_
          exact hret 215 H locs ls 0 z_reading_190 z_numbers_191 h rfl dX5_readsStatement_215 hP hS
    · have h := it_n hc106 h
      by_cases hc107 : r103 = 104
      · have h := it_p hc107 h
        refine lv_tableIn (off := 102) (tgt := 118) hx hb dX5_readsStatement_16 (by rw [hc107]; decide) (by rw [hc107]; decide) (by rw [hc107]; rfl) (by decide) ?_
        refine lv_aload_n hx hb dX5_readsStatement_118 rfl (lv_at hl 1 rfl) ?_
        obtain ⟨r158, z_reading_159, z_numbers_160, hk161, h⟩ := bd3_e h
        refine cV_i (rest := []) F (kX5_readsKind l D cI cJ H.size g a_z a_z_s a_z_m a_z_image a_z_was a_z_letters a_z_row a_z_refused a_z_numbers z_hasImage z_letterMany z_rowMany (z_reading + 1) z_seed z_letters z_numbers r158 z_reading_159 z_numbers_160 hk161) (cwV 0 hts gX5_readsStatement_X5_readsKind rfl rfl rfl eVX5_readsKind ⟨Nat.le_of_ble_eq_true rfl, Nat.le_of_ble_eq_true rfl⟩) [0, 1, 2] hP hS (by decide) rfl rfl 0 rfl rfl rfl hl.1 (Nat.le_of_ble_eq_true rfl) ⟨Nat.le_refl _, Nat.le_refl _⟩ rfl dX5_readsStatement_119 (fun H locs hP hS => ?_)
        have hP : WD D A [(a_z, .inr (5, [.ref a_z_s, .ref a_z_m, .ref a_z_image, .ref a_z_was, .int z_hasImage, .ref a_z_letters, .ref a_z_row, .ref a_z_refused, .int z_letterMany, .int z_rowMany, .int z_reading_159, .ref a_z_numbers, .int z_seed])), (a_z_letters, .inl (cI, 96, .inl z_letters)), (a_z_numbers, .inl (cI, 3, .inl z_numbers_160))] H := hP
        refine lv_if_eq (tgt := 147) hx hb dX5_readsStatement_122 (by decide) (fun hc162 => ?_) (fun hc162 => ?_)
        · have h := it_p hc162 h
          refine lv_iconst (v := 0) hx hb dX5_readsStatement_147 (by decide) ?_
          refine lv_istore_n (lv' := [(2, .int 0), (1, .int r103), (0, .ref a_z)]) hx hb dX5_readsStatement_148 rfl hl (by decide) rfl (fun ls hl => ?_)
          refine lv_goto (tgt := 201) hx hb dX5_readsStatement_149 (by decide) ?_
          refine lv_iload_n hx hb dX5_readsStatement_201 rfl (lv_at hl 0 rfl) ?_
          refine lv_if_eq (tgt := 214) hx hb dX5_readsStatement_202 (by decide) (fun hc163 => ?_) (fun hc163 => ?_)
          · have h := it_p hc163 h
            refine lv_iconst (v := 0) hx hb dX5_readsStatement_214 (by decide) ?_
            exact hret 215 H locs ls 0 z_reading_159 z_numbers_160 h rfl dX5_readsStatement_215 hP hS
          · have h := it_n hc163 h
            refine lv_aload_n hx hb dX5_readsStatement_205 rfl (lv_at hl 2 rfl) ?_
            obtain ⟨r164, hk165, h⟩ := bd1_e h
            refine cV_i (rest := []) F (kX5_here l D cI cJ H.size g a_z a_z_s a_z_m a_z_image a_z_was a_z_letters a_z_row a_z_refused a_z_numbers z_hasImage z_letterMany z_rowMany z_reading_159 z_seed z_letters r164 hk165) (cwV 0 hts gX5_readsStatement_X5_here rfl rfl rfl eVX5_here ⟨Nat.le_of_ble_eq_true rfl, Nat.le_of_ble_eq_true rfl⟩) [0, 1] hP hS (by decide) rfl rfl 0 rfl rfl rfl hl.1 (Nat.le_of_ble_eq_true rfl) ⟨Nat.le_refl _, Nat.le_refl _⟩ rfl dX5_readsStatement_206 (fun H locs hP hS => ?_)
            have hP : WD D A [(a_z, .inr (5, [.ref a_z_s, .ref a_z_m, .ref a_z_image, .ref a_z_was, .int z_hasImage, .ref a_z_letters, .ref a_z_row, .ref a_z_refused, .int z_letterMany, .int z_rowMany, .int z_reading_159, .ref a_z_numbers, .int z_seed])), (a_z_letters, .inl (cI, 96, .inl z_letters)), (a_z_numbers, .inl (cI, 3, .inl z_numbers_160))] H := hP
            refine lv_bipush (v := 59) hx hb dX5_readsStatement_209 (by decide) ?_
            refine lv_icmp_eq (tgt := 216) hx hb dX5_readsStatement_211 (by decide) (fun hc166 => ?_) (fun hc166 => ?_)
            · have h := it_p hc166 h
              refine lv_aload_n hx hb dX5_readsStatement_216 rfl (lv_at hl 2 rfl) ?_
              refine lv_dup hx hb dX5_readsStatement_217 rfl ?_
              refine gt_X5_93 F iX5 (List.mem_cons_of_mem _ (List.mem_append_left _ (List.mem_of_getElem? (i := 0) rfl))) hP 0 rfl dX5_readsStatement_218 ?_
              refine lv_iconst (v := 1) hx hb dX5_readsStatement_221 (by decide) ?_
              refine lv_iadd hx hb dX5_readsStatement_222 ?_
              refine pt_X5_93 F iX5 (List.mem_cons_of_mem _ (List.mem_append_left _ (List.mem_of_getElem? (i := 0) rfl))) hP hS 0 rfl dX5_readsStatement_223 (fun H locs hP hS => ?_)
              have hP : WD D A [(a_z, .inr (5, [.ref a_z_s, .ref a_z_m, .ref a_z_image, .ref a_z_was, .int z_hasImage, .ref a_z_letters, .ref a_z_row, .ref a_z_refused, .int z_letterMany, .int z_rowMany, .int (z_reading_159 + 1), .ref a_z_numbers, .int z_seed])), (a_z_letters, .inl (cI, 96, .inl z_letters)), (a_z_numbers, .inl (cI, 3, .inl z_numbers_160))] H := hP
              refine lv_iconst (v := 1) hx hb dX5_readsStatement_226 (by decide) ?_
              exact hret 227 H locs ls 1 (z_reading_159 + 1) z_numbers_160 h rfl dX5_readsStatement_227 hP hS
            · have h := it_n hc166 h
              refine lv_iconst (v := 0) hx hb dX5_readsStatement_214 (by decide) ?_
              exact hret 215 H locs ls 0 z_reading_159 z_numbers_160 h rfl dX5_readsStatement_215 hP hS
        · have h := it_n hc162 h
          refine lv_aload_n hx hb dX5_readsStatement_125 rfl (lv_at hl 1 rfl) ?_
          refine lv_iconst (v := 1) hx hb dX5_readsStatement_126 (by decide) ?_
          refine lv_iconst (v := 1) hx hb dX5_readsStatement_127 (by decide) ?_
          obtain ⟨r167, z_reading_168, z_numbers_169, hk170, h⟩ := bd3_e h
          refine cV_i (rest := []) F (kX5_readsNumber l D cI cJ H.size g a_z a_z_s a_z_m a_z_image a_z_was a_z_letters a_z_row a_z_refused a_z_numbers z_hasImage z_letterMany z_rowMany z_reading_159 z_seed z_letters z_numbers_160 1 1 r167 z_reading_168 z_numbers_169 hk170) (cwV 2 hts gX5_readsStatement_X5_readsNumber rfl rfl rfl eVX5_readsNumber ⟨Nat.le_of_ble_eq_true rfl, Nat.le_of_ble_eq_true rfl⟩) [0, 1, 2] hP hS (by decide) rfl rfl 0 rfl rfl rfl hl.1 (Nat.le_of_ble_eq_true rfl) ⟨Nat.le_refl _, Nat.le_refl _⟩ rfl dX5_readsStatement_128 (fun H locs hP hS => ?_)
          have hP : WD D A [(a_z, .inr (5, [.ref a_z_s, .ref a_z_m, .ref a_z_image, .ref a_z_was, .int z_hasImage, .ref a_z_letters, .ref a_z_row, .ref a_z_refused, .int z_letterMany, .int z_rowMany, .int z_reading_168, .ref a_z_numbers, .int z_seed])), (a_z_letters, .inl (cI, 96, .inl z_letters)), (a_z_numbers, .inl (cI, 3, .inl z_numbers_169))] H := hP
          refine lv_if_eq (tgt := 147) hx hb dX5_readsStatement_131 (by decide) (fun hc171 => ?_) (fun hc171 => ?_)
          · have h := it_p hc171 h
            refine lv_iconst (v := 0) hx hb dX5_readsStatement_147 (by decide) ?_
            refine lv_istore_n (lv' := [(2, .int 0), (1, .int r103), (0, .ref a_z)]) hx hb dX5_readsStatement_148 rfl hl (by decide) rfl (fun ls hl => ?_)
            refine lv_goto (tgt := 201) hx hb dX5_readsStatement_149 (by decide) ?_
            refine lv_iload_n hx hb dX5_readsStatement_201 rfl (lv_at hl 0 rfl) ?_
            refine lv_if_eq (tgt := 214) hx hb dX5_readsStatement_202 (by decide) (fun hc172 => ?_) (fun hc172 => ?_)
            · have h := it_p hc172 h
              refine lv_iconst (v := 0) hx hb dX5_readsStatement_214 (by decide) ?_
              exact hret 215 H locs ls 0 z_reading_168 z_numbers_169 h rfl dX5_readsStatement_215 hP hS
            · have h := it_n hc172 h
              refine lv_aload_n hx hb dX5_readsStatement_205 rfl (lv_at hl 2 rfl) ?_
              obtain ⟨r173, hk174, h⟩ := bd1_e h
              refine cV_i (rest := []) F (kX5_here l D cI cJ H.size g a_z a_z_s a_z_m a_z_image a_z_was a_z_letters a_z_row a_z_refused a_z_numbers z_hasImage z_letterMany z_rowMany z_reading_168 z_seed z_letters r173 hk174) (cwV 0 hts gX5_readsStatement_X5_here rfl rfl rfl eVX5_here ⟨Nat.le_of_ble_eq_true rfl, Nat.le_of_ble_eq_true rfl⟩) [0, 1] hP hS (by decide) rfl rfl 0 rfl rfl rfl hl.1 (Nat.le_of_ble_eq_true rfl) ⟨Nat.le_refl _, Nat.le_refl _⟩ rfl dX5_readsStatement_206 (fun H locs hP hS => ?_)
              have hP : WD D A [(a_z, .inr (5, [.ref a_z_s, .ref a_z_m, .ref a_z_image, .ref a_z_was, .int z_hasImage, .ref a_z_letters, .ref a_z_row, .ref a_z_refused, .int z_letterMany, .int z_rowMany, .int z_reading_168, .ref a_z_numbers, .int z_seed])), (a_z_letters, .inl (cI, 96, .inl z_letters)), (a_z_numbers, .inl (cI, 3, .inl z_numbers_169))] H := hP
              refine lv_bipush (v := 59) hx hb dX5_readsStatement_209 (by decide) ?_
              refine lv_icmp_eq (tgt := 216) hx hb dX5_readsStatement_211 (by decide) (fun hc175 => ?_) (fun hc175 => ?_)
              · have h := it_p hc175 h
                refine lv_aload_n hx hb dX5_readsStatement_216 rfl (lv_at hl 2 rfl) ?_
                refine lv_dup hx hb dX5_readsStatement_217 rfl ?_
                refine gt_X5_93 F iX5 (List.mem_cons_of_mem _ (List.mem_append_left _ (List.mem_of_getElem? (i := 0) rfl))) hP 0 rfl dX5_readsStatement_218 ?_
                refine lv_iconst (v := 1) hx hb dX5_readsStatement_221 (by decide) ?_
                refine lv_iadd hx hb dX5_readsStatement_222 ?_
                refine pt_X5_93 F iX5 (List.mem_cons_of_mem _ (List.mem_append_left _ (List.mem_of_getElem? (i := 0) rfl))) hP hS 0 rfl dX5_readsStatement_223 (fun H locs hP hS => ?_)
                have hP : WD D A [(a_z, .inr (5, [.ref a_z_s, .ref a_z_m, .ref a_z_image, .ref a_z_was, .int z_hasImage, .ref a_z_letters, .ref a_z_row, .ref a_z_refused, .int z_letterMany, .int z_rowMany, .int (z_reading_168 + 1), .ref a_z_numbers, .int z_seed])), (a_z_letters, .inl (cI, 96, .inl z_letters)), (a_z_numbers, .inl (cI, 3, .inl z_numbers_169))] H := hP
                refine lv_iconst (v := 1) hx hb dX5_readsStatement_226 (by decide) ?_
                exact hret 227 H locs ls 1 (z_reading_168 + 1) z_numbers_169 h rfl dX5_readsStatement_227 hP hS
              · have h := it_n hc175 h
                refine lv_iconst (v := 0) hx hb dX5_readsStatement_214 (by decide) ?_
                exact hret 215 H locs ls 0 z_reading_168 z_numbers_169 h rfl dX5_readsStatement_215 hP hS
          · have h := it_n hc171 h
            refine lv_aload_n hx hb dX5_readsStatement_134 rfl (lv_at hl 1 rfl) ?_
            refine lv_iconst (v := 2) hx hb dX5_readsStatement_135 (by decide) ?_
            refine lv_iconst (v := 1) hx hb dX5_readsStatement_136 (by decide) ?_
            obtain ⟨r176, z_reading_177, z_numbers_178, hk179, h⟩ := bd3_e h
            refine cV_i (rest := []) F (kX5_readsNumber l D cI cJ H.size g a_z a_z_s a_z_m a_z_image a_z_was a_z_letters a_z_row a_z_refused a_z_numbers z_hasImage z_letterMany z_rowMany z_reading_168 z_seed z_letters z_numbers_169 2 1 r176 z_reading_177 z_numbers_178 hk179) (cwV 2 hts gX5_readsStatement_X5_readsNumber rfl rfl rfl eVX5_readsNumber ⟨Nat.le_of_ble_eq_true rfl, Nat.le_of_ble_eq_true rfl⟩) [0, 1, 2] hP hS (by decide) rfl rfl 0 rfl rfl rfl hl.1 (Nat.le_of_ble_eq_true rfl) ⟨Nat.le_refl _, Nat.le_refl _⟩ rfl dX5_readsStatement_137 (fun H locs hP hS => ?_)
            have hP : WD D A [(a_z, .inr (5, [.ref a_z_s, .ref a_z_m, .ref a_z_image, .ref a_z_was, .int z_hasImage, .ref a_z_letters, .ref a_z_row, .ref a_z_refused, .int z_letterMany, .int z_rowMany, .int z_reading_177, .ref a_z_numbers, .int z_seed])), (a_z_letters, .inl (cI, 96, .inl z_letters)), (a_z_numbers, .inl (cI, 3, .inl z_numbers_178))] H := hP
            refine lv_if_eq (tgt := 147) hx hb dX5_readsStatement_140 (by decide) (fun hc180 => ?_) (fun hc180 => ?_)
            · have h := it_p hc180 h
              refine lv_iconst (v := 0) hx hb dX5_readsStatement_147 (by decide) ?_
              refine lv_istore_n (lv' := [(2, .int 0), (1, .int r103), (0, .ref a_z)]) hx hb dX5_readsStatement_148 rfl hl (by decide) rfl (fun ls hl => ?_)
              refine lv_goto (tgt := 201) hx hb dX5_readsStatement_149 (by decide) ?_
              refine lv_iload_n hx hb dX5_readsStatement_201 rfl (lv_at hl 0 rfl) ?_
              refine lv_if_eq (tgt := 214) hx hb dX5_readsStatement_202 (by decide) (fun hc181 => ?_) (fun hc181 => ?_)
              · have h := it_p hc181 h
                refine lv_iconst (v := 0) hx hb dX5_readsStatement_214 (by decide) ?_
                exact hret 215 H locs ls 0 z_reading_177 z_numbers_178 h rfl dX5_readsStatement_215 hP hS
              · have h := it_n hc181 h
                refine lv_aload_n hx hb dX5_readsStatement_205 rfl (lv_at hl 2 rfl) ?_
                obtain ⟨r182, hk183, h⟩ := bd1_e h
                refine cV_i (rest := []) F (kX5_here l D cI cJ H.size g a_z a_z_s a_z_m a_z_image a_z_was a_z_letters a_z_row a_z_refused a_z_numbers z_hasImage z_letterMany z_rowMany z_reading_177 z_seed z_letters r182 hk183) (cwV 0 hts gX5_readsStatement_X5_here rfl rfl rfl eVX5_here ⟨Nat.le_of_ble_eq_true rfl, Nat.le_of_ble_eq_true rfl⟩) [0, 1] hP hS (by decide) rfl rfl 0 rfl rfl rfl hl.1 (Nat.le_of_ble_eq_true rfl) ⟨Nat.le_refl _, Nat.le_refl _⟩ rfl dX5_readsStatement_206 (fun H locs hP hS => ?_)
                have hP : WD D A [(a_z, .inr (5, [.ref a_z_s, .ref a_z_m, .ref a_z_image, .ref a_z_was, .int z_hasImage, .ref a_z_letters, .ref a_z_row, .ref a_z_refused, .int z_letterMany, .int z_rowMany, .int z_reading_177, .ref a_z_numbers, .int z_seed])), (a_z_letters, .inl (cI, 96, .inl z_letters)), (a_z_numbers, .inl (cI, 3, .inl z_numbers_178))] H := hP
                refine lv_bipush (v := 59) hx hb dX5_readsStatement_209 (by decide) ?_
                refine lv_icmp_eq (tgt := 216) hx hb dX5_readsStatement_211 (by decide) (fun hc184 => ?_) (fun hc184 => ?_)
                · have h := it_p hc184 h
                  refine lv_aload_n hx hb dX5_readsStatement_216 rfl (lv_at hl 2 rfl) ?_
                  refine lv_dup hx hb dX5_readsStatement_217 rfl ?_
                  refine gt_X5_93 F iX5 (List.mem_cons_of_mem _ (List.mem_append_left _ (List.mem_of_getElem? (i := 0) rfl))) hP 0 rfl dX5_readsStatement_218 ?_
                  refine lv_iconst (v := 1) hx hb dX5_readsStatement_221 (by decide) ?_
                  refine lv_iadd hx hb dX5_readsStatement_222 ?_
                  refine pt_X5_93 F iX5 (List.mem_cons_of_mem _ (List.mem_append_left _ (List.mem_of_getElem? (i := 0) rfl))) hP hS 0 rfl dX5_readsStatement_223 (fun H locs hP hS => ?_)
                  have hP : WD D A [(a_z, .inr (5, [.ref a_z_s, .ref a_z_m, .ref a_z_image, .ref a_z_was, .int z_hasImage, .ref a_z_letters, .ref a_z_row, .ref a_z_refused, .int z_letterMany, .int z_rowMany, .int (z_reading_177 + 1), .ref a_z_numbers, .int z_seed])), (a_z_letters, .inl (cI, 96, .inl z_letters)), (a_z_numbers, .inl (cI, 3, .inl z_numbers_178))] H := hP
                  refine lv_iconst (v := 1) hx hb dX5_readsStatement_226 (by decide) ?_
                  exact hret 227 H locs ls 1 (z_reading_177 + 1) z_numbers_178 h rfl dX5_readsStatement_227 hP hS
                · have h := it_n hc184 h
                  refine lv_iconst (v := 0) hx hb dX5_readsStatement_214 (by decide) ?_
                  exact hret 215 H locs ls 0 z_reading_177 z_numbers_178 h rfl dX5_readsStatement_215 hP hS
            · have h := it_n hc180 h
              refine lv_iconst (v := 1) hx hb dX5_readsStatement_143 (by decide) ?_
              refine lv_goto (tgt := 148) hx hb dX5_readsStatement_144 (by decide) ?_
              refine lv_istore_n (lv' := [(2, .int 1), (1, .int r103), (0, .ref a_z)]) hx hb dX5_readsStatement_148 rfl hl (by decide) rfl (fun ls hl => ?_)
              refine lv_goto (tgt := 201) hx hb dX5_readsStatement_149 (by decide) ?_
              refine lv_iload_n hx hb dX5_readsStatement_201 rfl (lv_at hl 0 rfl) ?_
              refine lv_if_eq (tgt := 214) hx hb dX5_readsStatement_202 (by decide) (fun hc185 => ?_) (fun hc185 => ?_)
              · have h := it_p hc185 h
                refine lv_iconst (v := 0) hx hb dX5_readsStatement_214 (by decide) ?_
                exact hret 215 H locs ls 0 z_reading_177 z_numbers_178 h rfl dX5_readsStatement_215 hP hS
              · have h := it_n hc185 h
                refine lv_aload_n hx hb dX5_readsStatement_205 rfl (lv_at hl 2 rfl) ?_
                obtain ⟨r186, hk187, h⟩ := bd1_e h
                refine cV_i (rest := []) F (kX5_here l D cI cJ H.size g a_z a_z_s a_z_m a_z_image a_z_was a_z_letters a_z_row a_z_refused a_z_numbers z_hasImage z_letterMany z_rowMany z_reading_177 z_seed z_letters r186 hk187) (cwV 0 hts gX5_readsStatement_X5_here rfl rfl rfl eVX5_here ⟨Nat.le_of_ble_eq_true rfl, Nat.le_of_ble_eq_true rfl⟩) [0, 1] hP hS (by decide) rfl rfl 0 rfl rfl rfl hl.1 (Nat.le_of_ble_eq_true rfl) ⟨Nat.le_refl _, Nat.le_refl _⟩ rfl dX5_readsStatement_206 (fun H locs hP hS => ?_)
                have hP : WD D A [(a_z, .inr (5, [.ref a_z_s, .ref a_z_m, .ref a_z_image, .ref a_z_was, .int z_hasImage, .ref a_z_letters, .ref a_z_row, .ref a_z_refused, .int z_letterMany, .int z_rowMany, .int z_reading_177, .ref a_z_numbers, .int z_seed])), (a_z_letters, .inl (cI, 96, .inl z_letters)), (a_z_numbers, .inl (cI, 3, .inl z_numbers_178))] H := hP
                refine lv_bipush (v := 59) hx hb dX5_readsStatement_209 (by decide) ?_
                refine lv_icmp_eq (tgt := 216) hx hb dX5_readsStatement_211 (by decide) (fun hc188 => ?_) (fun hc188 => ?_)
                · have h := it_p hc188 h
                  refine lv_aload_n hx hb dX5_readsStatement_216 rfl (lv_at hl 2 rfl) ?_
                  refine lv_dup hx hb dX5_readsStatement_217 rfl ?_
                  refine gt_X5_93 F iX5 (List.mem_cons_of_mem _ (List.mem_append_left _ (List.mem_of_getElem? (i := 0) rfl))) hP 0 rfl dX5_readsStatement_218 ?_
                  refine lv_iconst (v := 1) hx hb dX5_readsStatement_221 (by decide) ?_
                  refine lv_iadd hx hb dX5_readsStatement_222 ?_
                  refine pt_X5_93 F iX5 (List.mem_cons_of_mem _ (List.mem_append_left _ (List.mem_of_getElem? (i := 0) rfl))) hP hS 0 rfl dX5_readsStatement_223 (fun H locs hP hS => ?_)
                  have hP : WD D A [(a_z, .inr (5, [.ref a_z_s, .ref a_z_m, .ref a_z_image, .ref a_z_was, .int z_hasImage, .ref a_z_letters, .ref a_z_row, .ref a_z_refused, .int z_letterMany, .int z_rowMany, .int (z_reading_177 + 1), .ref a_z_numbers, .int z_seed])), (a_z_letters, .inl (cI, 96, .inl z_letters)), (a_z_numbers, .inl (cI, 3, .inl z_numbers_178))] H := hP
                  refine lv_iconst (v := 1) hx hb dX5_readsStatement_226 (by decide) ?_
                  exact hret 227 H locs ls 1 (z_reading_177 + 1) z_numbers_178 h rfl dX5_readsStatement_227 hP hS
                · have h := it_n hc188 h
                  refine lv_iconst (v := 0) hx hb dX5_readsStatement_214 (by decide) ?_
                  exact hret 215 H locs ls 0 z_reading_177 z_numbers_178 h rfl dX5_readsStatement_215 hP hS
      · have h := it_n hc107 h
        by_cases hc108 : r103 = 108
        · have h := it_p hc108 h
          refine lv_tableIn (off := 136) (tgt := 152) hx hb dX5_readsStatement_16 (by rw [hc108]; decide) (by rw [hc108]; decide) (by rw [hc108]; rfl) (by decide) ?_
          refine lv_aload_n hx hb dX5_readsStatement_152 rfl (lv_at hl 1 rfl) ?_
          refine lv_iconst (v := 0) hx hb dX5_readsStatement_153 (by decide) ?_
          refine lv_iconst (v := 1) hx hb dX5_readsStatement_154 (by decide) ?_
          obtain ⟨r150, z_reading_151, z_numbers_152, hk153, h⟩ := bd3_e h
          refine cV_i (rest := []) F (kX5_readsNumber l D cI cJ H.size g a_z a_z_s a_z_m a_z_image a_z_was a_z_letters a_z_row a_z_refused a_z_numbers z_hasImage z_letterMany z_rowMany (z_reading + 1) z_seed z_letters z_numbers 0 1 r150 z_reading_151 z_numbers_152 hk153) (cwV 2 hts gX5_readsStatement_X5_readsNumber rfl rfl rfl eVX5_readsNumber ⟨Nat.le_of_ble_eq_true rfl, Nat.le_of_ble_eq_true rfl⟩) [0, 1, 2] hP hS (by decide) rfl rfl 0 rfl rfl rfl hl.1 (Nat.le_of_ble_eq_true rfl) ⟨Nat.le_refl _, Nat.le_refl _⟩ rfl dX5_readsStatement_155 (fun H locs hP hS => ?_)
          have hP : WD D A [(a_z, .inr (5, [.ref a_z_s, .ref a_z_m, .ref a_z_image, .ref a_z_was, .int z_hasImage, .ref a_z_letters, .ref a_z_row, .ref a_z_refused, .int z_letterMany, .int z_rowMany, .int z_reading_151, .ref a_z_numbers, .int z_seed])), (a_z_letters, .inl (cI, 96, .inl z_letters)), (a_z_numbers, .inl (cI, 3, .inl z_numbers_152))] H := hP
          refine lv_istore_n (lv' := [(2, .int r150), (1, .int r103), (0, .ref a_z)]) hx hb dX5_readsStatement_158 rfl hl (by decide) rfl (fun ls hl => ?_)
          refine lv_goto (tgt := 201) hx hb dX5_readsStatement_159 (by decide) ?_
          refine lv_iload_n hx hb dX5_readsStatement_201 rfl (lv_at hl 0 rfl) ?_
          refine lv_if_eq (tgt := 214) hx hb dX5_readsStatement_202 (by decide) (fun hc154 => ?_) (fun hc154 => ?_)
          · have h := it_p hc154 h
            refine lv_iconst (v := 0) hx hb dX5_readsStatement_214 (by decide) ?_
            exact hret 215 H locs ls 0 z_reading_151 z_numbers_152 h rfl dX5_readsStatement_215 hP hS
          · have h := it_n hc154 h
            refine lv_aload_n hx hb dX5_readsStatement_205 rfl (lv_at hl 2 rfl) ?_
            obtain ⟨r155, hk156, h⟩ := bd1_e h
            refine cV_i (rest := []) F (kX5_here l D cI cJ H.size g a_z a_z_s a_z_m a_z_image a_z_was a_z_letters a_z_row a_z_refused a_z_numbers z_hasImage z_letterMany z_rowMany z_reading_151 z_seed z_letters r155 hk156) (cwV 0 hts gX5_readsStatement_X5_here rfl rfl rfl eVX5_here ⟨Nat.le_of_ble_eq_true rfl, Nat.le_of_ble_eq_true rfl⟩) [0, 1] hP hS (by decide) rfl rfl 0 rfl rfl rfl hl.1 (Nat.le_of_ble_eq_true rfl) ⟨Nat.le_refl _, Nat.le_refl _⟩ rfl dX5_readsStatement_206 (fun H locs hP hS => ?_)
            have hP : WD D A [(a_z, .inr (5, [.ref a_z_s, .ref a_z_m, .ref a_z_image, .ref a_z_was, .int z_hasImage, .ref a_z_letters, .ref a_z_row, .ref a_z_refused, .int z_letterMany, .int z_rowMany, .int z_reading_151, .ref a_z_numbers, .int z_seed])), (a_z_letters, .inl (cI, 96, .inl z_letters)), (a_z_numbers, .inl (cI, 3, .inl z_numbers_152))] H := hP
            refine lv_bipush (v := 59) hx hb dX5_readsStatement_209 (by decide) ?_
            refine lv_icmp_eq (tgt := 216) hx hb dX5_readsStatement_211 (by decide) (fun hc157 => ?_) (fun hc157 => ?_)
            · have h := it_p hc157 h
              refine lv_aload_n hx hb dX5_readsStatement_216 rfl (lv_at hl 2 rfl) ?_
              refine lv_dup hx hb dX5_readsStatement_217 rfl ?_
              refine gt_X5_93 F iX5 (List.mem_cons_of_mem _ (List.mem_append_left _ (List.mem_of_getElem? (i := 0) rfl))) hP 0 rfl dX5_readsStatement_218 ?_
              refine lv_iconst (v := 1) hx hb dX5_readsStatement_221 (by decide) ?_
              refine lv_iadd hx hb dX5_readsStatement_222 ?_
              refine pt_X5_93 F iX5 (List.mem_cons_of_mem _ (List.mem_append_left _ (List.mem_of_getElem? (i := 0) rfl))) hP hS 0 rfl dX5_readsStatement_223 (fun H locs hP hS => ?_)
              have hP : WD D A [(a_z, .inr (5, [.ref a_z_s, .ref a_z_m, .ref a_z_image, .ref a_z_was, .int z_hasImage, .ref a_z_letters, .ref a_z_row, .ref a_z_refused, .int z_letterMany, .int z_rowMany, .int (z_reading_151 + 1), .ref a_z_numbers, .int z_seed])), (a_z_letters, .inl (cI, 96, .inl z_letters)), (a_z_numbers, .inl (cI, 3, .inl z_numbers_152))] H := hP
              refine lv_iconst (v := 1) hx hb dX5_readsStatement_226 (by decide) ?_
              exact hret 227 H locs ls 1 (z_reading_151 + 1) z_numbers_152 h rfl dX5_readsStatement_227 hP hS
            · have h := it_n hc157 h
              refine lv_iconst (v := 0) hx hb dX5_readsStatement_214 (by decide) ?_
              exact hret 215 H locs ls 0 z_reading_151 z_numbers_152 h rfl dX5_readsStatement_215 hP hS
        · have h := it_n hc108 h
          by_cases hc109 : r103 = 109
          · have h := it_p hc109 h
            refine lv_tableIn (off := 146) (tgt := 162) hx hb dX5_readsStatement_16 (by rw [hc109]; decide) (by rw [hc109]; decide) (by rw [hc109]; rfl) (by decide) ?_
            refine lv_aload_n hx hb dX5_readsStatement_162 rfl (lv_at hl 1 rfl) ?_
            refine lv_iconst (v := 0) hx hb dX5_readsStatement_163 (by decide) ?_
            refine lv_iconst (v := 1) hx hb dX5_readsStatement_164 (by decide) ?_
            obtain ⟨r128, z_reading_129, z_numbers_130, hk131, h⟩ := bd3_e h
            refine cV_i (rest := []) F (kX5_readsNumber l D cI cJ H.size g a_z a_z_s a_z_m a_z_image a_z_was a_z_letters a_z_row a_z_refused a_z_numbers z_hasImage z_letterMany z_rowMany (z_reading + 1) z_seed z_letters z_numbers 0 1 r128 z_reading_129 z_numbers_130 hk131) (cwV 2 hts gX5_readsStatement_X5_readsNumber rfl rfl rfl eVX5_readsNumber ⟨Nat.le_of_ble_eq_true rfl, Nat.le_of_ble_eq_true rfl⟩) [0, 1, 2] hP hS (by decide) rfl rfl 0 rfl rfl rfl hl.1 (Nat.le_of_ble_eq_true rfl) ⟨Nat.le_refl _, Nat.le_refl _⟩ rfl dX5_readsStatement_165 (fun H locs hP hS => ?_)
            have hP : WD D A [(a_z, .inr (5, [.ref a_z_s, .ref a_z_m, .ref a_z_image, .ref a_z_was, .int z_hasImage, .ref a_z_letters, .ref a_z_row, .ref a_z_refused, .int z_letterMany, .int z_rowMany, .int z_reading_129, .ref a_z_numbers, .int z_seed])), (a_z_letters, .inl (cI, 96, .inl z_letters)), (a_z_numbers, .inl (cI, 3, .inl z_numbers_130))] H := hP
            refine lv_if_eq (tgt := 184) hx hb dX5_readsStatement_168 (by decide) (fun hc132 => ?_) (fun hc132 => ?_)
            · have h := it_p hc132 h
              refine lv_iconst (v := 0) hx hb dX5_readsStatement_184 (by decide) ?_
              refine lv_istore_n (lv' := [(2, .int 0), (1, .int r103), (0, .ref a_z)]) hx hb dX5_readsStatement_185 rfl hl (by decide) rfl (fun ls hl => ?_)
              refine lv_goto (tgt := 201) hx hb dX5_readsStatement_186 (by decide) ?_
              refine lv_iload_n hx hb dX5_readsStatement_201 rfl (lv_at hl 0 rfl) ?_
              refine lv_if_eq (tgt := 214) hx hb dX5_readsStatement_202 (by decide) (fun hc133 => ?_) (fun hc133 => ?_)
              · have h := it_p hc133 h
                refine lv_iconst (v := 0) hx hb dX5_readsStatement_214 (by decide) ?_
                exact hret 215 H locs ls 0 z_reading_129 z_numbers_130 h rfl dX5_readsStatement_215 hP hS
              · have h := it_n hc133 h
                refine lv_aload_n hx hb dX5_readsStatement_205 rfl (lv_at hl 2 rfl) ?_
                obtain ⟨r134, hk135, h⟩ := bd1_e h
                refine cV_i (rest := []) F (kX5_here l D cI cJ H.size g a_z a_z_s a_z_m a_z_image a_z_was a_z_letters a_z_row a_z_refused a_z_numbers z_hasImage z_letterMany z_rowMany z_reading_129 z_seed z_letters r134 hk135) (cwV 0 hts gX5_readsStatement_X5_here rfl rfl rfl eVX5_here ⟨Nat.le_of_ble_eq_true rfl, Nat.le_of_ble_eq_true rfl⟩) [0, 1] hP hS (by decide) rfl rfl 0 rfl rfl rfl hl.1 (Nat.le_of_ble_eq_true rfl) ⟨Nat.le_refl _, Nat.le_refl _⟩ rfl dX5_readsStatement_206 (fun H locs hP hS => ?_)
                have hP : WD D A [(a_z, .inr (5, [.ref a_z_s, .ref a_z_m, .ref a_z_image, .ref a_z_was, .int z_hasImage, .ref a_z_letters, .ref a_z_row, .ref a_z_refused, .int z_letterMany, .int z_rowMany, .int z_reading_129, .ref a_z_numbers, .int z_seed])), (a_z_letters, .inl (cI, 96, .inl z_letters)), (a_z_numbers, .inl (cI, 3, .inl z_numbers_130))] H := hP
                refine lv_bipush (v := 59) hx hb dX5_readsStatement_209 (by decide) ?_
                refine lv_icmp_eq (tgt := 216) hx hb dX5_readsStatement_211 (by decide) (fun hc136 => ?_) (fun hc136 => ?_)
                · have h := it_p hc136 h
                  refine lv_aload_n hx hb dX5_readsStatement_216 rfl (lv_at hl 2 rfl) ?_
                  refine lv_dup hx hb dX5_readsStatement_217 rfl ?_
                  refine gt_X5_93 F iX5 (List.mem_cons_of_mem _ (List.mem_append_left _ (List.mem_of_getElem? (i := 0) rfl))) hP 0 rfl dX5_readsStatement_218 ?_
                  refine lv_iconst (v := 1) hx hb dX5_readsStatement_221 (by decide) ?_
                  refine lv_iadd hx hb dX5_readsStatement_222 ?_
                  refine pt_X5_93 F iX5 (List.mem_cons_of_mem _ (List.mem_append_left _ (List.mem_of_getElem? (i := 0) rfl))) hP hS 0 rfl dX5_readsStatement_223 (fun H locs hP hS => ?_)
                  have hP : WD D A [(a_z, .inr (5, [.ref a_z_s, .ref a_z_m, .ref a_z_image, .ref a_z_was, .int z_hasImage, .ref a_z_letters, .ref a_z_row, .ref a_z_refused, .int z_letterMany, .int z_rowMany, .int (z_reading_129 + 1), .ref a_z_numbers, .int z_seed])), (a_z_letters, .inl (cI, 96, .inl z_letters)), (a_z_numbers, .inl (cI, 3, .inl z_numbers_130))] H := hP
                  refine lv_iconst (v := 1) hx hb dX5_readsStatement_226 (by decide) ?_
                  exact hret 227 H locs ls 1 (z_reading_129 + 1) z_numbers_130 h rfl dX5_readsStatement_227 hP hS
                · have h := it_n hc136 h
                  refine lv_iconst (v := 0) hx hb dX5_readsStatement_214 (by decide) ?_
                  exact hret 215 H locs ls 0 z_reading_129 z_numbers_130 h rfl dX5_readsStatement_215 hP hS
            · have h := it_n hc132 h
              refine lv_aload_n hx hb dX5_readsStatement_171 rfl (lv_at hl 1 rfl) ?_
              refine lv_iconst (v := 1) hx hb dX5_readsStatement_172 (by decide) ?_
              refine lv_iconst (v := 1) hx hb dX5_readsStatement_173 (by decide) ?_
              obtain ⟨r137, z_reading_138, z_numbers_139, hk140, h⟩ := bd3_e h
              refine cV_i (rest := []) F (kX5_readsNumber l D cI cJ H.size g a_z a_z_s a_z_m a_z_image a_z_was a_z_letters a_z_row a_z_refused a_z_numbers z_hasImage z_letterMany z_rowMany z_reading_129 z_seed z_letters z_numbers_130 1 1 r137 z_reading_138 z_numbers_139 hk140) (cwV 2 hts gX5_readsStatement_X5_readsNumber rfl rfl rfl eVX5_readsNumber ⟨Nat.le_of_ble_eq_true rfl, Nat.le_of_ble_eq_true rfl⟩) [0, 1, 2] hP hS (by decide) rfl rfl 0 rfl rfl rfl hl.1 (Nat.le_of_ble_eq_true rfl) ⟨Nat.le_refl _, Nat.le_refl _⟩ rfl dX5_readsStatement_174 (fun H locs hP hS => ?_)
              have hP : WD D A [(a_z, .inr (5, [.ref a_z_s, .ref a_z_m, .ref a_z_image, .ref a_z_was, .int z_hasImage, .ref a_z_letters, .ref a_z_row, .ref a_z_refused, .int z_letterMany, .int z_rowMany, .int z_reading_138, .ref a_z_numbers, .int z_seed])), (a_z_letters, .inl (cI, 96, .inl z_letters)), (a_z_numbers, .inl (cI, 3, .inl z_numbers_139))] H := hP
              refine lv_if_eq (tgt := 184) hx hb dX5_readsStatement_177 (by decide) (fun hc141 => ?_) (fun hc141 => ?_)
              · have h := it_p hc141 h
                refine lv_iconst (v := 0) hx hb dX5_readsStatement_184 (by decide) ?_
                refine lv_istore_n (lv' := [(2, .int 0), (1, .int r103), (0, .ref a_z)]) hx hb dX5_readsStatement_185 rfl hl (by decide) rfl (fun ls hl => ?_)
                refine lv_goto (tgt := 201) hx hb dX5_readsStatement_186 (by decide) ?_
                refine lv_iload_n hx hb dX5_readsStatement_201 rfl (lv_at hl 0 rfl) ?_
                refine lv_if_eq (tgt := 214) hx hb dX5_readsStatement_202 (by decide) (fun hc142 => ?_) (fun hc142 => ?_)
                · have h := it_p hc142 h
                  refine lv_iconst (v := 0) hx hb dX5_readsStatement_214 (by decide) ?_
                  exact hret 215 H locs ls 0 z_reading_138 z_numbers_139 h rfl dX5_readsStatement_215 hP hS
                · have h := it_n hc142 h
                  refine lv_aload_n hx hb dX5_readsStatement_205 rfl (lv_at hl 2 rfl) ?_
                  obtain ⟨r143, hk144, h⟩ := bd1_e h
                  refine cV_i (rest := []) F (kX5_here l D cI cJ H.size g a_z a_z_s a_z_m a_z_image a_z_was a_z_letters a_z_row a_z_refused a_z_numbers z_hasImage z_letterMany z_rowMany z_reading_138 z_seed z_letters r143 hk144) (cwV 0 hts gX5_readsStatement_X5_here rfl rfl rfl eVX5_here ⟨Nat.le_of_ble_eq_true rfl, Nat.le_of_ble_eq_true rfl⟩) [0, 1] hP hS (by decide) rfl rfl 0 rfl rfl rfl hl.1 (Nat.le_of_ble_eq_true rfl) ⟨Nat.le_refl _, Nat.le_refl _⟩ rfl dX5_readsStatement_206 (fun H locs hP hS => ?_)
                  have hP : WD D A [(a_z, .inr (5, [.ref a_z_s, .ref a_z_m, .ref a_z_image, .ref a_z_was, .int z_hasImage, .ref a_z_letters, .ref a_z_row, .ref a_z_refused, .int z_letterMany, .int z_rowMany, .int z_reading_138, .ref a_z_numbers, .int z_seed])), (a_z_letters, .inl (cI, 96, .inl z_letters)), (a_z_numbers, .inl (cI, 3, .inl z_numbers_139))] H := hP
                  refine lv_bipush (v := 59) hx hb dX5_readsStatement_209 (by decide) ?_
                  refine lv_icmp_eq (tgt := 216) hx hb dX5_readsStatement_211 (by decide) (fun hc145 => ?_) (fun hc145 => ?_)
                  · have h := it_p hc145 h
                    refine lv_aload_n hx hb dX5_readsStatement_216 rfl (lv_at hl 2 rfl) ?_
                    refine lv_dup hx hb dX5_readsStatement_217 rfl ?_
                    refine gt_X5_93 F iX5 (List.mem_cons_of_mem _ (List.mem_append_left _ (List.mem_of_getElem? (i := 0) rfl))) hP 0 rfl dX5_readsStatement_218 ?_
                    refine lv_iconst (v := 1) hx hb dX5_readsStatement_221 (by decide) ?_
                    refine lv_iadd hx hb dX5_readsStatement_222 ?_
                    refine pt_X5_93 F iX5 (List.mem_cons_of_mem _ (List.mem_append_left _ (List.mem_of_getElem? (i := 0) rfl))) hP hS 0 rfl dX5_readsStatement_223 (fun H locs hP hS => ?_)
                    have hP : WD D A [(a_z, .inr (5, [.ref a_z_s, .ref a_z_m, .ref a_z_image, .ref a_z_was, .int z_hasImage, .ref a_z_letters, .ref a_z_row, .ref a_z_refused, .int z_letterMany, .int z_rowMany, .int (z_reading_138 + 1), .ref a_z_numbers, .int z_seed])), (a_z_letters, .inl (cI, 96, .inl z_letters)), (a_z_numbers, .inl (cI, 3, .inl z_numbers_139))] H := hP
                    refine lv_iconst (v := 1) hx hb dX5_readsStatement_226 (by decide) ?_
                    exact hret 227 H locs ls 1 (z_reading_138 + 1) z_numbers_139 h rfl dX5_readsStatement_227 hP hS
                  · have h := it_n hc145 h
                    refine lv_iconst (v := 0) hx hb dX5_readsStatement_214 (by decide) ?_
                    exact hret 215 H locs ls 0 z_reading_138 z_numbers_139 h rfl dX5_readsStatement_215 hP hS
              · have h := it_n hc141 h
                refine lv_iconst (v := 1) hx hb dX5_readsStatement_180 (by decide) ?_
                refine lv_goto (tgt := 185) hx hb dX5_readsStatement_181 (by decide) ?_
                refine lv_istore_n (lv' := [(2, .int 1), (1, .int r103), (0, .ref a_z)]) hx hb dX5_readsStatement_185 rfl hl (by decide) rfl (fun ls hl => ?_)
                refine lv_goto (tgt := 201) hx hb dX5_readsStatement_186 (by decide) ?_
                refine lv_iload_n hx hb dX5_readsStatement_201 rfl (lv_at hl 0 rfl) ?_
                refine lv_if_eq (tgt := 214) hx hb dX5_readsStatement_202 (by decide) (fun hc146 => ?_) (fun hc146 => ?_)
                · have h := it_p hc146 h
                  refine lv_iconst (v := 0) hx hb dX5_readsStatement_214 (by decide) ?_
                  exact hret 215 H locs ls 0 z_reading_138 z_numbers_139 h rfl dX5_readsStatement_215 hP hS
                · have h := it_n hc146 h
                  refine lv_aload_n hx hb dX5_readsStatement_205 rfl (lv_at hl 2 rfl) ?_
                  obtain ⟨r147, hk148, h⟩ := bd1_e h
                  refine cV_i (rest := []) F (kX5_here l D cI cJ H.size g a_z a_z_s a_z_m a_z_image a_z_was a_z_letters a_z_row a_z_refused a_z_numbers z_hasImage z_letterMany z_rowMany z_reading_138 z_seed z_letters r147 hk148) (cwV 0 hts gX5_readsStatement_X5_here rfl rfl rfl eVX5_here ⟨Nat.le_of_ble_eq_true rfl, Nat.le_of_ble_eq_true rfl⟩) [0, 1] hP hS (by decide) rfl rfl 0 rfl rfl rfl hl.1 (Nat.le_of_ble_eq_true rfl) ⟨Nat.le_refl _, Nat.le_refl _⟩ rfl dX5_readsStatement_206 (fun H locs hP hS => ?_)
                  have hP : WD D A [(a_z, .inr (5, [.ref a_z_s, .ref a_z_m, .ref a_z_image, .ref a_z_was, .int z_hasImage, .ref a_z_letters, .ref a_z_row, .ref a_z_refused, .int z_letterMany, .int z_rowMany, .int z_reading_138, .ref a_z_numbers, .int z_seed])), (a_z_letters, .inl (cI, 96, .inl z_letters)), (a_z_numbers, .inl (cI, 3, .inl z_numbers_139))] H := hP
                  refine lv_bipush (v := 59) hx hb dX5_readsStatement_209 (by decide) ?_
                  refine lv_icmp_eq (tgt := 216) hx hb dX5_readsStatement_211 (by decide) (fun hc149 => ?_) (fun hc149 => ?_)
                  · have h := it_p hc149 h
                    refine lv_aload_n hx hb dX5_readsStatement_216 rfl (lv_at hl 2 rfl) ?_
                    refine lv_dup hx hb dX5_readsStatement_217 rfl ?_
                    refine gt_X5_93 F iX5 (List.mem_cons_of_mem _ (List.mem_append_left _ (List.mem_of_getElem? (i := 0) rfl))) hP 0 rfl dX5_readsStatement_218 ?_
                    refine lv_iconst (v := 1) hx hb dX5_readsStatement_221 (by decide) ?_
                    refine lv_iadd hx hb dX5_readsStatement_222 ?_
                    refine pt_X5_93 F iX5 (List.mem_cons_of_mem _ (List.mem_append_left _ (List.mem_of_getElem? (i := 0) rfl))) hP hS 0 rfl dX5_readsStatement_223 (fun H locs hP hS => ?_)
                    have hP : WD D A [(a_z, .inr (5, [.ref a_z_s, .ref a_z_m, .ref a_z_image, .ref a_z_was, .int z_hasImage, .ref a_z_letters, .ref a_z_row, .ref a_z_refused, .int z_letterMany, .int z_rowMany, .int (z_reading_138 + 1), .ref a_z_numbers, .int z_seed])), (a_z_letters, .inl (cI, 96, .inl z_letters)), (a_z_numbers, .inl (cI, 3, .inl z_numbers_139))] H := hP
                    refine lv_iconst (v := 1) hx hb dX5_readsStatement_226 (by decide) ?_
                    exact hret 227 H locs ls 1 (z_reading_138 + 1) z_numbers_139 h rfl dX5_readsStatement_227 hP hS
                  · have h := it_n hc149 h
                    refine lv_iconst (v := 0) hx hb dX5_readsStatement_214 (by decide) ?_
                    exact hret 215 H locs ls 0 z_reading_138 z_numbers_139 h rfl dX5_readsStatement_215 hP hS
          · have h := it_n hc109 h
            by_cases hc110 : r103 = 112
            · have h := it_p hc110 h
              refine lv_tableIn (off := 92) (tgt := 108) hx hb dX5_readsStatement_16 (by rw [hc110]; decide) (by rw [hc110]; decide) (by rw [hc110]; rfl) (by decide) ?_
              refine lv_aload_n hx hb dX5_readsStatement_108 rfl (lv_at hl 1 rfl) ?_
              refine lv_iconst (v := 0) hx hb dX5_readsStatement_109 (by decide) ?_
              refine lv_iconst (v := 2) hx hb dX5_readsStatement_110 (by decide) ?_
              obtain ⟨r120, z_reading_121, z_numbers_122, hk123, h⟩ := bd3_e h
              refine cV_i (rest := []) F (kX5_readsNumber l D cI cJ H.size g a_z a_z_s a_z_m a_z_image a_z_was a_z_letters a_z_row a_z_refused a_z_numbers z_hasImage z_letterMany z_rowMany (z_reading + 1) z_seed z_letters z_numbers 0 2 r120 z_reading_121 z_numbers_122 hk123) (cwV 2 hts gX5_readsStatement_X5_readsNumber rfl rfl rfl eVX5_readsNumber ⟨Nat.le_of_ble_eq_true rfl, Nat.le_of_ble_eq_true rfl⟩) [0, 1, 2] hP hS (by decide) rfl rfl 0 rfl rfl rfl hl.1 (Nat.le_of_ble_eq_true rfl) ⟨Nat.le_refl _, Nat.le_refl _⟩ rfl dX5_readsStatement_111 (fun H locs hP hS => ?_)
              have hP : WD D A [(a_z, .inr (5, [.ref a_z_s, .ref a_z_m, .ref a_z_image, .ref a_z_was, .int z_hasImage, .ref a_z_letters, .ref a_z_row, .ref a_z_refused, .int z_letterMany, .int z_rowMany, .int z_reading_121, .ref a_z_numbers, .int z_seed])), (a_z_letters, .inl (cI, 96, .inl z_letters)), (a_z_numbers, .inl (cI, 3, .inl z_numbers_122))] H := hP
              refine lv_istore_n (lv' := [(2, .int r120), (1, .int r103), (0, .ref a_z)]) hx hb dX5_readsStatement_114 rfl hl (by decide) rfl (fun ls hl => ?_)
              refine lv_goto (tgt := 201) hx hb dX5_readsStatement_115 (by decide) ?_
              refine lv_iload_n hx hb dX5_readsStatement_201 rfl (lv_at hl 0 rfl) ?_
              refine lv_if_eq (tgt := 214) hx hb dX5_readsStatement_202 (by decide) (fun hc124 => ?_) (fun hc124 => ?_)
              · have h := it_p hc124 h
                refine lv_iconst (v := 0) hx hb dX5_readsStatement_214 (by decide) ?_
                exact hret 215 H locs ls 0 z_reading_121 z_numbers_122 h rfl dX5_readsStatement_215 hP hS
              · have h := it_n hc124 h
                refine lv_aload_n hx hb dX5_readsStatement_205 rfl (lv_at hl 2 rfl) ?_
                obtain ⟨r125, hk126, h⟩ := bd1_e h
                refine cV_i (rest := []) F (kX5_here l D cI cJ H.size g a_z a_z_s a_z_m a_z_image a_z_was a_z_letters a_z_row a_z_refused a_z_numbers z_hasImage z_letterMany z_rowMany z_reading_121 z_seed z_letters r125 hk126) (cwV 0 hts gX5_readsStatement_X5_here rfl rfl rfl eVX5_here ⟨Nat.le_of_ble_eq_true rfl, Nat.le_of_ble_eq_true rfl⟩) [0, 1] hP hS (by decide) rfl rfl 0 rfl rfl rfl hl.1 (Nat.le_of_ble_eq_true rfl) ⟨Nat.le_refl _, Nat.le_refl _⟩ rfl dX5_readsStatement_206 (fun H locs hP hS => ?_)
                have hP : WD D A [(a_z, .inr (5, [.ref a_z_s, .ref a_z_m, .ref a_z_image, .ref a_z_was, .int z_hasImage, .ref a_z_letters, .ref a_z_row, .ref a_z_refused, .int z_letterMany, .int z_rowMany, .int z_reading_121, .ref a_z_numbers, .int z_seed])), (a_z_letters, .inl (cI, 96, .inl z_letters)), (a_z_numbers, .inl (cI, 3, .inl z_numbers_122))] H := hP
                refine lv_bipush (v := 59) hx hb dX5_readsStatement_209 (by decide) ?_
                refine lv_icmp_eq (tgt := 216) hx hb dX5_readsStatement_211 (by decide) (fun hc127 => ?_) (fun hc127 => ?_)
                · have h := it_p hc127 h
                  refine lv_aload_n hx hb dX5_readsStatement_216 rfl (lv_at hl 2 rfl) ?_
                  refine lv_dup hx hb dX5_readsStatement_217 rfl ?_
                  refine gt_X5_93 F iX5 (List.mem_cons_of_mem _ (List.mem_append_left _ (List.mem_of_getElem? (i := 0) rfl))) hP 0 rfl dX5_readsStatement_218 ?_
                  refine lv_iconst (v := 1) hx hb dX5_readsStatement_221 (by decide) ?_
                  refine lv_iadd hx hb dX5_readsStatement_222 ?_
                  refine pt_X5_93 F iX5 (List.mem_cons_of_mem _ (List.mem_append_left _ (List.mem_of_getElem? (i := 0) rfl))) hP hS 0 rfl dX5_readsStatement_223 (fun H locs hP hS => ?_)
                  have hP : WD D A [(a_z, .inr (5, [.ref a_z_s, .ref a_z_m, .ref a_z_image, .ref a_z_was, .int z_hasImage, .ref a_z_letters, .ref a_z_row, .ref a_z_refused, .int z_letterMany, .int z_rowMany, .int (z_reading_121 + 1), .ref a_z_numbers, .int z_seed])), (a_z_letters, .inl (cI, 96, .inl z_letters)), (a_z_numbers, .inl (cI, 3, .inl z_numbers_122))] H := hP
                  refine lv_iconst (v := 1) hx hb dX5_readsStatement_226 (by decide) ?_
                  exact hret 227 H locs ls 1 (z_reading_121 + 1) z_numbers_122 h rfl dX5_readsStatement_227 hP hS
                · have h := it_n hc127 h
                  refine lv_iconst (v := 0) hx hb dX5_readsStatement_214 (by decide) ?_
                  exact hret 215 H locs ls 0 z_reading_121 z_numbers_122 h rfl dX5_readsStatement_215 hP hS
            · have h := it_n hc110 h
              by_cases hc111 : r103 = 115
              · have h := it_p hc111 h
                refine lv_tableIn (off := 92) (tgt := 108) hx hb dX5_readsStatement_16 (by rw [hc111]; decide) (by rw [hc111]; decide) (by rw [hc111]; rfl) (by decide) ?_
                refine lv_aload_n hx hb dX5_readsStatement_108 rfl (lv_at hl 1 rfl) ?_
                refine lv_iconst (v := 0) hx hb dX5_readsStatement_109 (by decide) ?_
                refine lv_iconst (v := 2) hx hb dX5_readsStatement_110 (by decide) ?_
                obtain ⟨r112, z_reading_113, z_numbers_114, hk115, h⟩ := bd3_e h
                refine cV_i (rest := []) F (kX5_readsNumber l D cI cJ H.size g a_z a_z_s a_z_m a_z_image a_z_was a_z_letters a_z_row a_z_refused a_z_numbers z_hasImage z_letterMany z_rowMany (z_reading + 1) z_seed z_letters z_numbers 0 2 r112 z_reading_113 z_numbers_114 hk115) (cwV 2 hts gX5_readsStatement_X5_readsNumber rfl rfl rfl eVX5_readsNumber ⟨Nat.le_of_ble_eq_true rfl, Nat.le_of_ble_eq_true rfl⟩) [0, 1, 2] hP hS (by decide) rfl rfl 0 rfl rfl rfl hl.1 (Nat.le_of_ble_eq_true rfl) ⟨Nat.le_refl _, Nat.le_refl _⟩ rfl dX5_readsStatement_111 (fun H locs hP hS => ?_)
                have hP : WD D A [(a_z, .inr (5, [.ref a_z_s, .ref a_z_m, .ref a_z_image, .ref a_z_was, .int z_hasImage, .ref a_z_letters, .ref a_z_row, .ref a_z_refused, .int z_letterMany, .int z_rowMany, .int z_reading_113, .ref a_z_numbers, .int z_seed])), (a_z_letters, .inl (cI, 96, .inl z_letters)), (a_z_numbers, .inl (cI, 3, .inl z_numbers_114))] H := hP
                refine lv_istore_n (lv' := [(2, .int r112), (1, .int r103), (0, .ref a_z)]) hx hb dX5_readsStatement_114 rfl hl (by decide) rfl (fun ls hl => ?_)
                refine lv_goto (tgt := 201) hx hb dX5_readsStatement_115 (by decide) ?_
                refine lv_iload_n hx hb dX5_readsStatement_201 rfl (lv_at hl 0 rfl) ?_
                refine lv_if_eq (tgt := 214) hx hb dX5_readsStatement_202 (by decide) (fun hc116 => ?_) (fun hc116 => ?_)
                · have h := it_p hc116 h
                  refine lv_iconst (v := 0) hx hb dX5_readsStatement_214 (by decide) ?_
                  exact hret 215 H locs ls 0 z_reading_113 z_numbers_114 h rfl dX5_readsStatement_215 hP hS
                · have h := it_n hc116 h
                  refine lv_aload_n hx hb dX5_readsStatement_205 rfl (lv_at hl 2 rfl) ?_
                  obtain ⟨r117, hk118, h⟩ := bd1_e h
                  refine cV_i (rest := []) F (kX5_here l D cI cJ H.size g a_z a_z_s a_z_m a_z_image a_z_was a_z_letters a_z_row a_z_refused a_z_numbers z_hasImage z_letterMany z_rowMany z_reading_113 z_seed z_letters r117 hk118) (cwV 0 hts gX5_readsStatement_X5_here rfl rfl rfl eVX5_here ⟨Nat.le_of_ble_eq_true rfl, Nat.le_of_ble_eq_true rfl⟩) [0, 1] hP hS (by decide) rfl rfl 0 rfl rfl rfl hl.1 (Nat.le_of_ble_eq_true rfl) ⟨Nat.le_refl _, Nat.le_refl _⟩ rfl dX5_readsStatement_206 (fun H locs hP hS => ?_)
                  have hP : WD D A [(a_z, .inr (5, [.ref a_z_s, .ref a_z_m, .ref a_z_image, .ref a_z_was, .int z_hasImage, .ref a_z_letters, .ref a_z_row, .ref a_z_refused, .int z_letterMany, .int z_rowMany, .int z_reading_113, .ref a_z_numbers, .int z_seed])), (a_z_letters, .inl (cI, 96, .inl z_letters)), (a_z_numbers, .inl (cI, 3, .inl z_numbers_114))] H := hP
                  refine lv_bipush (v := 59) hx hb dX5_readsStatement_209 (by decide) ?_
                  refine lv_icmp_eq (tgt := 216) hx hb dX5_readsStatement_211 (by decide) (fun hc119 => ?_) (fun hc119 => ?_)
                  · have h := it_p hc119 h
                    refine lv_aload_n hx hb dX5_readsStatement_216 rfl (lv_at hl 2 rfl) ?_
                    refine lv_dup hx hb dX5_readsStatement_217 rfl ?_
                    refine gt_X5_93 F iX5 (List.mem_cons_of_mem _ (List.mem_append_left _ (List.mem_of_getElem? (i := 0) rfl))) hP 0 rfl dX5_readsStatement_218 ?_
                    refine lv_iconst (v := 1) hx hb dX5_readsStatement_221 (by decide) ?_
                    refine lv_iadd hx hb dX5_readsStatement_222 ?_
                    refine pt_X5_93 F iX5 (List.mem_cons_of_mem _ (List.mem_append_left _ (List.mem_of_getElem? (i := 0) rfl))) hP hS 0 rfl dX5_readsStatement_223 (fun H locs hP hS => ?_)
                    have hP : WD D A [(a_z, .inr (5, [.ref a_z_s, .ref a_z_m, .ref a_z_image, .ref a_z_was, .int z_hasImage, .ref a_z_letters, .ref a_z_row, .ref a_z_refused, .int z_letterMany, .int z_rowMany, .int (z_reading_113 + 1), .ref a_z_numbers, .int z_seed])), (a_z_letters, .inl (cI, 96, .inl z_letters)), (a_z_numbers, .inl (cI, 3, .inl z_numbers_114))] H := hP
                    refine lv_iconst (v := 1) hx hb dX5_readsStatement_226 (by decide) ?_
                    exact hret 227 H locs ls 1 (z_reading_113 + 1) z_numbers_114 h rfl dX5_readsStatement_227 hP hS
                  · have h := it_n hc119 h
                    refine lv_iconst (v := 0) hx hb dX5_readsStatement_214 (by decide) ?_
                    exact hret 215 H locs ls 0 z_reading_113 z_numbers_114 h rfl dX5_readsStatement_215 hP hS
              · have h := it_n hc111 h
                refine lv_tabD (tgt := 189) [97, 100, 104, 108, 109, 112, 115] hx hb dX5_readsStatement_16 (by decide) (by decide) (List.forall_mem_cons.mpr ⟨lv_neT hc105 (by decide), List.forall_mem_cons.mpr ⟨lv_neT hc106 (by decide), List.forall_mem_cons.mpr ⟨lv_neT hc107 (by decide), List.forall_mem_cons.mpr ⟨lv_neT hc108 (by decide), List.forall_mem_cons.mpr ⟨lv_neT hc109 (by decide), List.forall_mem_cons.mpr ⟨lv_neT hc110 (by decide), List.forall_mem_cons.mpr ⟨lv_neT hc111 (by decide), fun _ h9 => absurd h9 List.not_mem_nil⟩⟩⟩⟩⟩⟩⟩) (by decide) ?_
                refine lv_aload_n hx hb dX5_readsStatement_189 rfl (lv_at hl 1 rfl) ?_
                refine lv_dup hx hb dX5_readsStatement_190 rfl ?_
                refine gt_X5_93 F iX5 (List.mem_cons_of_mem _ (List.mem_append_left _ (List.mem_of_getElem? (i := 0) rfl))) hP 0 rfl dX5_readsStatement_191 ?_
                refine lv_iconst (v := 1) hx hb dX5_readsStatement_194 (by decide) ?_
                refine lv_isub hx hb dX5_readsStatement_195 ?_
                refine pt_X5_93 F iX5 (List.mem_cons_of_mem _ (List.mem_append_left _ (List.mem_of_getElem? (i := 0) rfl))) hP hS 0 rfl dX5_readsStatement_196 (fun H locs hP hS => ?_)
                have hP : WD D A [(a_z, .inr (5, [.ref a_z_s, .ref a_z_m, .ref a_z_image, .ref a_z_was, .int z_hasImage, .ref a_z_letters, .ref a_z_row, .ref a_z_refused, .int z_letterMany, .int z_rowMany, .int ((z_reading + 1) - 1), .ref a_z_numbers, .int z_seed])), (a_z_letters, .inl (cI, 96, .inl z_letters)), (a_z_numbers, .inl (cI, 3, .inl z_numbers))] H := hP
                refine lv_iconst (v := 0) hx hb dX5_readsStatement_199 (by decide) ?_
                exact hret 200 H locs ls 0 ((z_reading + 1) - 1) z_numbers h rfl dX5_readsStatement_200 hP hS
