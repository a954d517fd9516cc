theorem eSX1_blow : yX1_blow.cls ≠ "java/lang/invoke/MethodHandle" ∧ yX1_blow.cls ≠ "java/lang/invoke/VarHandle" ∧ (parseMethodDescriptor yX1_blow.desc).map (fun d => d.parameters.length) = some 3 := by decide +kernel
theorem eVX1_blow : yX1_blow.cls = RX1 ∧ yX1_blow.cls ≠ "java/lang/invoke/MethodHandle" ∧ yX1_blow.cls ≠ "java/lang/invoke/VarHandle" ∧ (parseMethodDescriptor yX1_blow.desc).map (fun d => d.parameters.length) = some 3 := ⟨rfl, eSX1_blow⟩
abbrev rmX1_blow : Room := { frames := 4, cells := 0, slots := 0, locals := 90 }
def fX1_blow_L3_b (g : Nat) (self : Int32 → (Nat → Int64) → Option ((Nat → Int64))) (x4_L3 : Int32) (z_chances_L3 : Nat → Int64) : Option ((Nat → Int64)) := if 64 ≤ x4_L3 then (some z_chances_L3) else (gd (inB x4_L3 64) (self (x4_L3 + 1) (vp_updL z_chances_L3 x4_L3.toNatClampNeg 0)))
def fX1_blow_L3 (g : Nat) (n : Nat) : Int32 → (Nat → Int64) → Option ((Nat → Int64)) := lp (fX1_blow_L3_b g) (fun _ _ => none) n
def fX1_blow_L42_b (g : Nat) (x2_L42 : Int32) (x3_L42 : Int32) (v0_hands : Int32) (v0_aboard : Int32) (v0_cells : Nat → Int32) (v0_kinds : Nat → Int32) (v0_figures : Nat → Int32) (v0_longings : Nat → Int32) (self : Int32 → Int64 → (Nat → Int64) → (Nat → Int64) → Int32 → Int32 → Int32 → Int32 → (Nat → Int32) → Option (Int64 × (Nat → Int64) × (Nat → Int64) × Int32 × Int32 × Int32 × Int32 × (Nat → Int32))) (x4_L42 : Int32) (z_all_L42 : Int64) (z_chances_L42 : Nat → Int64) (z_next_L42 : Nat → Int64) (v0_ship_L42 : Int32) (v0_day_L42 : Int32) (v0_rows_L42 : Int32) (v0_columns_L42 : Int32) (v0_seas_L42 : Nat → Int32) : Option (Int64 × (Nat → Int64) × (Nat → Int64) × Int32 × Int32 × Int32 × Int32 × (Nat → Int32)) := if x2_L42 ≤ x4_L42 then (some (z_all_L42, z_chances_L42, z_next_L42, v0_ship_L42, v0_day_L42, v0_rows_L42, v0_columns_L42, v0_seas_L42)) else (bd5 (fX1_spread g x3_L42 z_chances_L42 z_next_L42 v0_hands v0_aboard v0_ship_L42 v0_rows_L42 v0_columns_L42 v0_cells v0_kinds v0_figures v0_longings v0_seas_L42) fun z_chances_16 z_next_17 v0_ship_18 v0_rows_19 v0_columns_20 => (bd2 (fX3_passDay g v0_hands v0_aboard v0_day_L42 v0_seas_L42) fun v0_day_22 v0_seas_23 => (self (x4_L42 + 1) (z_all_L42 * x3_L42.toInt64) z_chances_16 z_next_17 v0_ship_18 v0_day_22 v0_rows_19 v0_columns_20 v0_seas_23)))
def fX1_blow_L42 (g : Nat) (x2_L42 : Int32) (x3_L42 : Int32) (v0_hands : Int32) (v0_aboard : Int32) (v0_cells : Nat → Int32) (v0_kinds : Nat → Int32) (v0_figures : Nat → Int32) (v0_longings : Nat → Int32) (n : Nat) : Int32 → Int64 → (Nat → Int64) → (Nat → Int64) → Int32 → Int32 → Int32 → Int32 → (Nat → Int32) → Option (Int64 × (Nat → Int64) × (Nat → Int64) × Int32 × Int32 × Int32 × Int32 × (Nat → Int32)) := lp (fX1_blow_L42_b g x2_L42 x3_L42 v0_hands v0_aboard v0_cells v0_kinds v0_figures v0_longings) (fun _ _ _ _ _ _ _ _ _ => none) n
def fX1_blow (g : Nat) (p1 : Int32) (p2 : Int32) (z_chances : Nat → Int64) (z_next : Nat → Int64) (v0_hands : Int32) (v0_aboard : Int32) (v0_ship : Int32) (v0_day : Int32) (v0_rows : Int32) (v0_columns : Int32) (v0_cells : Nat → Int32) (v0_kinds : Nat → Int32) (v0_figures : Nat → Int32) (v0_longings : Nat → Int32) (v0_seas : Nat → Int32) : Option (Int64 × (Nat → Int64) × (Nat → Int64) × Int32 × Int32 × Int32 × Int32 × (Nat → Int32)) := bd1 (fX1_blow_L3 g g 0 z_chances) fun t13 => (gd (inB v0_ship 64) (bd8 (fX1_blow_L42 g p1 p2 v0_hands v0_aboard v0_cells v0_kinds v0_figures v0_longings g 0 1 (vp_updL t13 v0_ship.toNatClampNeg 1) z_next v0_ship v0_day v0_rows v0_columns v0_seas) fun t25 t26 t27 t28 t29 t30 t31 t32 => (some (t25, t26, t27, t28, t29, t30, t31, t32))))
set_option maxHeartbeats 4000000 in
set_option maxRecDepth 100000 in
theorem kX1_blow (l : Launch) (D : va_G) (cI cJ : ClassId) (sz g : Nat) (a_z a_z_chances a_z_next a_v0 a_v0_cells a_v0_kinds a_v0_figures a_v0_longings a_v0_seas : Nat) (z_all : Int64) (z_chances : Nat → Int64) (z_next : Nat → Int64) (v0_places : Int32) (v0_hands : Int32) (v0_aboard : Int32) (v0_ship : Int32) (v0_day : Int32) (v0_rows : Int32) (v0_columns : Int32) (v0_cells : Nat → Int32) (v0_kinds : Nat → Int32) (v0_figures : Nat → Int32) (v0_longings : Nat → Int32) (v0_seas : Nat → Int32) (p1 : Int32) (p2 : Int32) (n_z_all : Int64) (n_z_chances : Nat → Int64) (n_z_next : Nat → Int64) (n_v0_ship : Int32) (n_v0_day : Int32) (n_v0_rows : Int32) (n_v0_columns : Int32) (n_v0_seas : Nat → Int32) (hf : fX1_blow g p1 p2 z_chances z_next v0_hands v0_aboard v0_ship v0_day v0_rows v0_columns v0_cells v0_kinds v0_figures v0_longings v0_seas = some (n_z_all, n_z_chances, n_z_next, n_v0_ship, n_v0_day, n_v0_rows, n_v0_columns, n_v0_seas)) : Met l yX1_blow wsX1_blow rmX1_blow (va_Pc [.ref a_z, .ref a_v0, .int p1, .int p2] (sPc D (tyL cI cJ) [(a_z, .inr (1, [.ref a_z_chances, .ref a_z_next, .long z_all])), (a_z_chances, .inl (cJ, 64, .inr (.inl z_chances))), (a_z_next, .inl (cJ, 64, .inr (.inl z_next))), (a_v0, .inr (3, [.ref a_v0_cells, .int v0_places, .ref a_v0_kinds, .ref a_v0_figures, .ref a_v0_longings, .ref a_v0_seas, .int v0_hands, .int v0_aboard, .int v0_ship, .int v0_day, .int v0_rows, .int v0_columns])), (a_v0_cells, .inl (cI, 6, .inl v0_cells)), (a_v0_kinds, .inl (cI, 7, .inl v0_kinds)), (a_v0_figures, .inl (cI, 7, .inl v0_figures)), (a_v0_longings, .inl (cI, 7, .inl v0_longings)), (a_v0_seas, .inl (cI, 7, .inl v0_seas))] sz)) (qV D (tyL cI cJ) [(a_z, .inr (1, [.ref a_z_chances, .ref a_z_next, .long z_all])), (a_z_chances, .inl (cJ, 64, .inr (.inl z_chances))), (a_z_next, .inl (cJ, 64, .inr (.inl z_next))), (a_v0, .inr (3, [.ref a_v0_cells, .int v0_places, .ref a_v0_kinds, .ref a_v0_figures, .ref a_v0_longings, .ref a_v0_seas, .int v0_hands, .int v0_aboard, .int v0_ship, .int v0_day, .int v0_rows, .int v0_columns])), (a_v0_cells, .inl (cI, 6, .inl v0_cells)), (a_v0_kinds, .inl (cI, 7, .inl v0_kinds)), (a_v0_figures, .inl (cI, 7, .inl v0_figures)), (a_v0_longings, .inl (cI, 7, .inl v0_longings)), (a_v0_seas, .inl (cI, 7, .inl v0_seas))] sz [(a_z, .inr (1, [.ref a_z_chances, .ref a_z_next, .long n_z_all])), (a_z_chances, .inl (cJ, 64, .inr (.inl n_z_chances))), (a_z_next, .inl (cJ, 64, .inr (.inl n_z_next))), (a_v0, .inr (3, [.ref a_v0_cells, .int v0_places, .ref a_v0_kinds, .ref a_v0_figures, .ref a_v0_longings, .ref a_v0_seas, .int v0_hands, .int v0_aboard, .int n_v0_ship, .int n_v0_day, .int n_v0_rows, .int n_v0_columns])), (a_v0_cells, .inl (cI, 6, .inl v0_cells)), (a_v0_kinds, .inl (cI, 7, .inl v0_kinds)), (a_v0_figures, .inl (cI, 7, .inl v0_figures)), (a_v0_longings, .inl (cI, 7, .inl v0_longings)), (a_v0_seas, .inl (cI, 7, .inl n_v0_seas))]) 0 0 (va_A [(a_z, .inr (1, [.ref a_z_chances, .ref a_z_next, .long z_all])), (a_z_chances, .inl (cJ, 64, .inr (.inl z_chances))), (a_z_next, .inl (cJ, 64, .inr (.inl z_next))), (a_v0, .inr (3, [.ref a_v0_cells, .int v0_places, .ref a_v0_kinds, .ref a_v0_figures, .ref a_v0_longings, .ref a_v0_seas, .int v0_hands, .int v0_aboard, .int v0_ship, .int v0_day, .int v0_rows, .int v0_columns])), (a_v0_cells, .inl (cI, 6, .inl v0_cells)), (a_v0_kinds, .inl (cI, 7, .inl v0_kinds)), (a_v0_figures, .inl (cI, 7, .inl v0_figures)), (a_v0_longings, .inl (cI, 7, .inl v0_longings)), (a_v0_seas, .inl (cI, 7, .inl v0_seas))] sz) := by
  refine st_v (cc := cX1_blow) (maxL := 5) (by decide) rfl (Nat.le_of_ble_eq_true rfl) ?_
  intro p e s m args below meth c A Q F hret0 H locs hP hS ls hl
  have F : Cx p s m args c cX1_blow 5 wsX1_blow RX1 D (tyL cI cJ) A := F
  have hx := F.1.1
  have hb := F.1.2.1
  have hown := F.1.2.2.2.1
  have hts := F.1.2.2.2.2
  have iX1 : ∀ w ∈ wsX10, w ∈ wsX1_blow := fun w h => (List.mem_cons_of_mem _ (List.mem_append_left _ (List.mem_append_right _ h)))
  have iX3 : ∀ w ∈ wsX30, w ∈ wsX1_blow := fun w h => (List.mem_cons_of_mem _ (List.mem_append_right _ h))
  have hret : ∀ (pc : Nat) (H : Heap) (locs : List Loc) (ls : Array Slot) (m_z_all : Int64) (m_z_chances : Nat → Int64) (m_z_next : Nat → Int64) (m_v0_ship : Int32) (m_v0_day : Int32) (m_v0_rows : Int32) (m_v0_columns : Int32) (m_v0_seas : Nat → Int32), some (m_z_all, m_z_chances, m_z_next, m_v0_ship, m_v0_day, m_v0_rows, m_v0_columns, m_v0_seas) = some (n_z_all, n_z_chances, n_z_next, n_v0_ship, n_v0_day, n_v0_rows, n_v0_columns, n_v0_seas) → decode cX1_blow pc = .ok (.return_, 1) → WD D A [(a_z, .inr (1, [.ref a_z_chances, .ref a_z_next, .long m_z_all])), (a_z_chances, .inl (cJ, 64, .inr (.inl m_z_chances))), (a_z_next, .inl (cJ, 64, .inr (.inl m_z_next))), (a_v0, .inr (3, [.ref a_v0_cells, .int v0_places, .ref a_v0_kinds, .ref a_v0_figures, .ref a_v0_longings, .ref a_v0_seas, .int v0_hands, .int v0_aboard, .int m_v0_ship, .int m_v0_day, .int m_v0_rows, .int m_v0_columns])), (a_v0_cells, .inl (cI, 6, .inl v0_cells)), (a_v0_kinds, .inl (cI, 7, .inl v0_kinds)), (a_v0_figures, .inl (cI, 7, .inl v0_figures)), (a_v0_longings, .inl (cI, 7, .inl v0_longings)), (a_v0_seas, .inl (cI, 7, .inl m_v0_seas))] H → va_S A s.heap H locs → W p l e rmX1_blow s m args below meth c H locs 0 0 Q (F0 m pc ls []) := by
    intro pc H locs ls m_z_all m_z_chances m_z_next m_v0_ship m_v0_day m_v0_rows m_v0_columns m_v0_seas h hd hP hS
    cases h
    exact hret0 pc H locs ls hd hP hS
  have L3 : ∀ (x2_L3 : Int32) (x3_L3 : Int32) (z_all_L3 : Int64) (z_next_L3 : Nat → Int64) (v0_ship_L3 : Int32) (v0_day_L3 : Int32) (v0_rows_L3 : Int32) (v0_columns_L3 : Int32) (v0_seas_L3 : Nat → Int32) (n : Nat) (x4_L3 : Int32) (z_chances_L3 : Nat → Int64) (tt0 : Nat → Int64) (H : Heap) (locs : List Loc) (ls : Array Slot), fX1_blow_L3 g n x4_L3 z_chances_L3 = some tt0 → WD D A [(a_z, .inr (1, [.ref a_z_chances, .ref a_z_next, .long z_all_L3])), (a_z_chances, .inl (cJ, 64, .inr (.inl z_chances_L3))), (a_z_next, .inl (cJ, 64, .inr (.inl z_next_L3))), (a_v0, .inr (3, [.ref a_v0_cells, .int v0_places, .ref a_v0_kinds, .ref a_v0_figures, .ref a_v0_longings, .ref a_v0_seas, .int v0_hands, .int v0_aboard, .int v0_ship_L3, .int v0_day_L3, .int v0_rows_L3, .int v0_columns_L3])), (a_v0_cells, .inl (cI, 6, .inl v0_cells)), (a_v0_kinds, .inl (cI, 7, .inl v0_kinds)), (a_v0_figures, .inl (cI, 7, .inl v0_figures)), (a_v0_longings, .inl (cI, 7, .inl v0_longings)), (a_v0_seas, .inl (cI, 7, .inl v0_seas_L3))] H → va_S A s.heap H locs → lv_has ls 5 [(0, .ref a_z), (1, .ref a_v0), (2, .int x2_L3), (3, .int x3_L3), (4, .int x4_L3)] → (∀ (H : Heap) (locs : List Loc) (ls : Array Slot), WD D A [(a_z, .inr (1, [.ref a_z_chances, .ref a_z_next, .long z_all_L3])), (a_z_chances, .inl (cJ, 64, .inr (.inl tt0))), (a_z_next, .inl (cJ, 64, .inr (.inl z_next_L3))), (a_v0, .inr (3, [.ref a_v0_cells, .int v0_places, .ref a_v0_kinds, .ref a_v0_figures, .ref a_v0_longings, .ref a_v0_seas, .int v0_hands, .int v0_aboard, .int v0_ship_L3, .int v0_day_L3, .int v0_rows_L3, .int v0_columns_L3])), (a_v0_cells, .inl (cI, 6, .inl v0_cells)), (a_v0_kinds, .inl (cI, 7, .inl v0_kinds)), (a_v0_figures, .inl (cI, 7, .inl v0_figures)), (a_v0_longings, .inl (cI, 7, .inl v0_longings)), (a_v0_seas, .inl (cI, 7, .inl v0_seas_L3))] H → va_S A s.heap H locs → lv_has ls 5 [(0, .ref a_z), (1, .ref a_v0), (2, .int x2_L3), (3, .int x3_L3)] → W p l e rmX1_blow s m args below meth c H locs 0 0 Q (F0 m 24 ls [])) → W p l e rmX1_blow s m args below meth c H locs 0 0 Q (F0 m 3 ls []) := by
    intro x2_L3 x3_L3 z_all_L3 z_next_L3 v0_ship_L3 v0_day_L3 v0_rows_L3 v0_columns_L3 v0_seas_L3 n
    induction n with
    | zero =>
      intro x4_L3 z_chances_L3 tt0 H locs ls h
      exact (no_some h).elim
    | succ n ih =>
      intro x4_L3 z_chances_L3 tt0 H locs ls h hP hS hl kE
      have h : fX1_blow_L3_b g (fX1_blow_L3 g n) x4_L3 z_chances_L3 = some tt0 := h
      unfold fX1_blow_L3_b at h
      refine lv_iload hx hb dX1_blow_3 (lv_at hl 4 rfl) ?_
      refine lv_bipush (v := 64) hx hb dX1_blow_5 (by decide) ?_
      refine lv_icmp_ge (tgt := 24) hx hb dX1_blow_7 (by decide) (fun hc11 => ?_) (fun hc11 => ?_)
      · have h := it_p hc11 h
        cases h
        exact kE H locs ls hP hS (lv_sub hl [0, 1, 2, 3] rfl)
      · have h := it_n hc11 h
        refine lv_aload_n hx hb dX1_blow_10 rfl (lv_at hl 0 rfl) ?_
        refine gt_X1_9 F iX1 (List.mem_cons_of_mem _ (List.mem_append_left _ (List.mem_append_left _ (List.mem_append_left _ (List.mem_of_getElem? (i := 0) rfl))))) hP 0 rfl dX1_blow_11 ?_
        refine lv_iload hx hb dX1_blow_14 (lv_at hl 4 rfl) ?_
        refine lv_lconst (v := 0) hx hb dX1_blow_16 (by decide) ?_
        obtain ⟨hg12, h⟩ := gd_e h
        refine r_ls F hP hS 1 rfl rfl hg12 dX1_blow_17 (fun H locs hP hS => ?_)
        have hP : WD D A [(a_z, .inr (1, [.ref a_z_chances, .ref a_z_next, .long z_all_L3])), (a_z_chances, .inl (cJ, 64, .inr (.inl (vp_updL z_chances_L3 x4_L3.toNatClampNeg 0)))), (a_z_next, .inl (cJ, 64, .inr (.inl z_next_L3))), (a_v0, .inr (3, [.ref a_v0_cells, .int v0_places, .ref a_v0_kinds, .ref a_v0_figures, .ref a_v0_longings, .ref a_v0_seas, .int v0_hands, .int v0_aboard, .int v0_ship_L3, .int v0_day_L3, .int v0_rows_L3, .int v0_columns_L3])), (a_v0_cells, .inl (cI, 6, .inl v0_cells)), (a_v0_kinds, .inl (cI, 7, .inl v0_kinds)), (a_v0_figures, .inl (cI, 7, .inl v0_figures)), (a_v0_longings, .inl (cI, 7, .inl v0_longings)), (a_v0_seas, .inl (cI, 7, .inl v0_seas_L3))] H := hP
        refine lv_iinc (v := x4_L3 + 1) (lv' := [(4, .int (x4_L3 + 1)), (0, .ref a_z), (1, .ref a_v0), (2, .int x2_L3), (3, .int x3_L3)]) hx hb dX1_blow_18 hl (k := 4) rfl rfl (by decide) rfl (fun ls hl => ?_)
        refine lv_goto (tgt := 3) hx hb dX1_blow_21 (by decide) ?_
        exact ih (x4_L3 + 1) (vp_updL z_chances_L3 x4_L3.toNatClampNeg 0) tt0 H locs ls h hP hS (lv_sub hl [1, 2, 3, 4, 0] rfl) kE
  have L42 : ∀ (x2_L42 : Int32) (x3_L42 : Int32) (n : Nat) (x4_L42 : Int32) (z_all_L42 : Int64) (z_chances_L42 : Nat → Int64) (z_next_L42 : Nat → Int64) (v0_ship_L42 : Int32) (v0_day_L42 : Int32) (v0_rows_L42 : Int32) (v0_columns_L42 : Int32) (v0_seas_L42 : Nat → Int32) (tt0 : Int64) (tt1 : Nat → Int64) (tt2 : Nat → Int64) (tt3 : Int32) (tt4 : Int32) (tt5 : Int32) (tt6 : Int32) (tt7 : Nat → Int32) (H : Heap) (locs : List Loc) (ls : Array Slot), fX1_blow_L42 g x2_L42 x3_L42 v0_hands v0_aboard v0_cells v0_kinds v0_figures v0_longings n x4_L42 z_all_L42 z_chances_L42 z_next_L42 v0_ship_L42 v0_day_L42 v0_rows_L42 v0_columns_L42 v0_seas_L42 = some (tt0, tt1, tt2, tt3, tt4, tt5, tt6, tt7) → WD D A [(a_z, .inr (1, [.ref a_z_chances, .ref a_z_next, .long z_all_L42])), (a_z_chances, .inl (cJ, 64, .inr (.inl z_chances_L42))), (a_z_next, .inl (cJ, 64, .inr (.inl z_next_L42))), (a_v0, .inr (3, [.ref a_v0_cells, .int v0_places, .ref a_v0_kinds, .ref a_v0_figures, .ref a_v0_longings, .ref a_v0_seas, .int v0_hands, .int v0_aboard, .int v0_ship_L42, .int v0_day_L42, .int v0_rows_L42, .int v0_columns_L42])), (a_v0_cells, .inl (cI, 6, .inl v0_cells)), (a_v0_kinds, .inl (cI, 7, .inl v0_kinds)), (a_v0_figures, .inl (cI, 7, .inl v0_figures)), (a_v0_longings, .inl (cI, 7, .inl v0_longings)), (a_v0_seas, .inl (cI, 7, .inl v0_seas_L42))] H → va_S A s.heap H locs → lv_has ls 5 [(0, .ref a_z), (1, .ref a_v0), (2, .int x2_L42), (3, .int x3_L42), (4, .int x4_L42)] → (∀ (H : Heap) (locs : List Loc) (ls : Array Slot), WD D A [(a_z, .inr (1, [.ref a_z_chances, .ref a_z_next, .long tt0])), (a_z_chances, .inl (cJ, 64, .inr (.inl tt1))), (a_z_next, .inl (cJ, 64, .inr (.inl tt2))), (a_v0, .inr (3, [.ref a_v0_cells, .int v0_places, .ref a_v0_kinds, .ref a_v0_figures, .ref a_v0_longings, .ref a_v0_seas, .int v0_hands, .int v0_aboard, .int tt3, .int tt4, .int tt5, .int tt6])), (a_v0_cells, .inl (cI, 6, .inl v0_cells)), (a_v0_kinds, .inl (cI, 7, .inl v0_kinds)), (a_v0_figures, .inl (cI, 7, .inl v0_figures)), (a_v0_longings, .inl (cI, 7, .inl v0_longings)), (a_v0_seas, .inl (cI, 7, .inl tt7))] H → va_S A s.heap H locs → lv_has ls 5 [] → W p l e rmX1_blow s m args below meth c H locs 0 0 Q (F0 m 75 ls [])) → W p l e rmX1_blow s m args below meth c H locs 0 0 Q (F0 m 42 ls []) := by
    intro x2_L42 x3_L42 n
    induction n with
    | zero =>
      intro x4_L42 z_all_L42 z_chances_L42 z_next_L42 v0_ship_L42 v0_day_L42 v0_rows_L42 v0_columns_L42 v0_seas_L42 tt0 tt1 tt2 tt3 tt4 tt5 tt6 tt7 H locs ls h
      exact (no_some h).elim
    | succ n ih =>
      intro x4_L42 z_all_L42 z_chances_L42 z_next_L42 v0_ship_L42 v0_day_L42 v0_rows_L42 v0_columns_L42 v0_seas_L42 tt0 tt1 tt2 tt3 tt4 tt5 tt6 tt7 H locs ls h hP hS hl kE
      have h : fX1_blow_L42_b g x2_L42 x3_L42 v0_hands v0_aboard v0_cells v0_kinds v0_figures v0_longings (fX1_blow_L42 g x2_L42 x3_L42 v0_hands v0_aboard v0_cells v0_kinds v0_figures v0_longings n) x4_L42 z_all_L42 z_chances_L42 z_next_L42 v0_ship_L42 v0_day_L42 v0_rows_L42 v0_columns_L42 v0_seas_L42 = some (tt0, tt1, tt2, tt3, tt4, tt5, tt6, tt7) := h
      unfold fX1_blow_L42_b at h
      refine lv_iload hx hb dX1_blow_42 (lv_at hl 4 rfl) ?_
      refine lv_iload_n hx hb dX1_blow_44 rfl (lv_at hl 2 rfl) ?_
      refine lv_icmp_ge (tgt := 75) hx hb dX1_blow_45 (by decide) (fun hc15 => ?_) (fun hc15 => ?_)
      · have h := it_p hc15 h
        cases h
        exact kE H locs ls hP hS (lv_sub hl [] rfl)
      · have h := it_n hc15 h
        refine lv_aload_n hx hb dX1_blow_48 rfl (lv_at hl 0 rfl) ?_
        refine lv_aload_n hx hb dX1_blow_49 rfl (lv_at hl 1 rfl) ?_
        refine lv_iload_n hx hb dX1_blow_50 rfl (lv_at hl 3 rfl) ?_
        obtain ⟨z_chances_16, z_next_17, v0_ship_18, v0_rows_19, v0_columns_20, hk21, h⟩ := bd5_e h
        refine cV_v (rest := []) F (kX1_spread l D cI cJ H.size g a_z a_z_chances a_z_next a_v0 a_v0_cells a_v0_kinds a_v0_figures a_v0_longings a_v0_seas z_all_L42 z_chances_L42 z_next_L42 v0_places v0_hands v0_aboard v0_ship_L42 v0_day_L42 v0_rows_L42 v0_columns_L42 v0_cells v0_kinds v0_figures v0_longings v0_seas_L42 x3_L42 z_chances_16 z_next_17 v0_ship_18 v0_rows_19 v0_columns_20 hk21) (cwV 2 hts gX1_blow_X1_spread rfl rfl rfl eVX1_spread ⟨Nat.le_of_ble_eq_true rfl, Nat.le_of_ble_eq_true rfl⟩) [0, 1, 2, 3, 4, 5, 6, 7, 8] hP hS (by decide) rfl rfl 0 rfl rfl rfl hl.1 (Nat.le_of_ble_eq_true rfl) ⟨Nat.le_refl _, Nat.le_refl _⟩ rfl dX1_blow_51 (fun H locs hP hS => ?_)
        have hP : WD D A [(a_z, .inr (1, [.ref a_z_chances, .ref a_z_next, .long z_all_L42])), (a_z_chances, .inl (cJ, 64, .inr (.inl z_chances_16))), (a_z_next, .inl (cJ, 64, .inr (.inl z_next_17))), (a_v0, .inr (3, [.ref a_v0_cells, .int v0_places, .ref a_v0_kinds, .ref a_v0_figures, .ref a_v0_longings, .ref a_v0_seas, .int v0_hands, .int v0_aboard, .int v0_ship_18, .int v0_day_L42, .int v0_rows_19, .int v0_columns_20])), (a_v0_cells, .inl (cI, 6, .inl v0_cells)), (a_v0_kinds, .inl (cI, 7, .inl v0_kinds)), (a_v0_figures, .inl (cI, 7, .inl v0_figures)), (a_v0_longings, .inl (cI, 7, .inl v0_longings)), (a_v0_seas, .inl (cI, 7, .inl v0_seas_L42))] H := hP
        refine lv_aload_n hx hb dX1_blow_54 rfl (lv_at hl 0 rfl) ?_
        refine lv_dup hx hb dX1_blow_55 rfl ?_
        refine gt_X1_24 F iX1 (List.mem_cons_of_mem _ (List.mem_append_left _ (List.mem_append_left _ (List.mem_append_left _ (List.mem_of_getElem? (i := 1) rfl))))) hP 0 rfl dX1_blow_56 ?_
        refine lv_iload_n hx hb dX1_blow_59 rfl (lv_at hl 3 rfl) ?_
        refine lv_i2l (v := x3_L42.toInt64) hx hb dX1_blow_60 rfl ?_
        refine lv_lmul hx hb dX1_blow_61 ?_
        refine pt_X1_24 F iX1 (List.mem_cons_of_mem _ (List.mem_append_left _ (List.mem_append_left _ (List.mem_append_left _ (List.mem_of_getElem? (i := 1) rfl))))) hP hS 0 rfl dX1_blow_62 (fun H locs hP hS => ?_)
        have hP : WD D A [(a_z, .inr (1, [.ref a_z_chances, .ref a_z_next, .long (z_all_L42 * x3_L42.toInt64)])), (a_z_chances, .inl (cJ, 64, .inr (.inl z_chances_16))), (a_z_next, .inl (cJ, 64, .inr (.inl z_next_17))), (a_v0, .inr (3, [.ref a_v0_cells, .int v0_places, .ref a_v0_kinds, .ref a_v0_figures, .ref a_v0_longings, .ref a_v0_seas, .int v0_hands, .int v0_aboard, .int v0_ship_18, .int v0_day_L42, .int v0_rows_19, .int v0_columns_20])), (a_v0_cells, .inl (cI, 6, .inl v0_cells)), (a_v0_kinds, .inl (cI, 7, .inl v0_kinds)), (a_v0_figures, .inl (cI, 7, .inl v0_figures)), (a_v0_longings, .inl (cI, 7, .inl v0_longings)), (a_v0_seas, .inl (cI, 7, .inl v0_seas_L42))] H := hP
        refine lv_aload_n hx hb dX1_blow_65 rfl (lv_at hl 1 rfl) ?_
        obtain ⟨v0_day_22, v0_seas_23, hk24, h⟩ := bd2_e h
        refine cV_v (rest := []) F (kX3_passDay l D cI cJ H.size g a_v0 a_v0_cells a_v0_kinds a_v0_figures a_v0_longings a_v0_seas v0_places v0_hands v0_aboard v0_ship_18 v0_day_L42 v0_rows_19 v0_columns_20 v0_seas_L42 v0_day_22 v0_seas_23 hk24) (cwV 0 hts gX1_blow_X3_passDay rfl rfl rfl eVX3_passDay ⟨Nat.le_of_ble_eq_true rfl, Nat.le_of_ble_eq_true rfl⟩) [3, 8] hP hS (by decide) rfl rfl 0 rfl rfl rfl hl.1 (Nat.le_of_ble_eq_true rfl) ⟨Nat.le_refl _, Nat.le_refl _⟩ rfl dX1_blow_66 (fun H locs hP hS => ?_)
        have hP : WD D A [(a_z, .inr (1, [.ref a_z_chances, .ref a_z_next, .long (z_all_L42 * x3_L42.toInt64)])), (a_z_chances, .inl (cJ, 64, .inr (.inl z_chances_16))), (a_z_next, .inl (cJ, 64, .inr (.inl z_next_17))), (a_v0, .inr (3, [.ref a_v0_cells, .int v0_places, .ref a_v0_kinds, .ref a_v0_figures, .ref a_v0_longings, .ref a_v0_seas, .int v0_hands, .int v0_aboard, .int v0_ship_18, .int v0_day_22, .int v0_rows_19, .int v0_columns_20])), (a_v0_cells, .inl (cI, 6, .inl v0_cells)), (a_v0_kinds, .inl (cI, 7, .inl v0_kinds)), (a_v0_figures, .inl (cI, 7, .inl v0_figures)), (a_v0_longings, .inl (cI, 7, .inl v0_longings)), (a_v0_seas, .inl (cI, 7, .inl v0_seas_23))] H := hP
        refine lv_iinc (v := x4_L42 + 1) (lv' := [(4, .int (x4_L42 + 1)), (0, .ref a_z), (1, .ref a_v0), (2, .int x2_L42), (3, .int x3_L42)]) hx hb dX1_blow_69 hl (k := 4) rfl rfl (by decide) rfl (fun ls hl => ?_)
        refine lv_goto (tgt := 42) hx hb dX1_blow_72 (by decide) ?_
        exact ih (x4_L42 + 1) (z_all_L42 * x3_L42.toInt64) z_chances_16 z_next_17 v0_ship_18 v0_day_22 v0_rows_19 v0_columns_20 v0_seas_23 tt0 tt1 tt2 tt3 tt4 tt5 tt6 tt7 H locs ls h hP hS (lv_sub hl [1, 2, 3, 4, 0] rfl) kE
  have hl : lv_has ls 5 [(0, .ref a_z), (1, .ref a_v0), (2, .int p1), (3, .int p2)] := hl
  have h := hf
  unfold fX1_blow at h
  refine lv_iconst (v := 0) hx hb dX1_blow_0 (by decide) ?_
  refine lv_istore (lv' := [(4, .int 0), (0, .ref a_z), (1, .ref a_v0), (2, .int p1), (3, .int p2)]) hx hb dX1_blow_1 hl (by decide) rfl (fun ls hl => ?_)
  obtain ⟨t13, hk35, h⟩ := bd1_e h
  refine L3 p1 p2 z_all z_next v0_ship v0_day v0_rows v0_columns v0_seas g 0 z_chances t13 H locs ls hk35 hP hS (lv_sub hl [1, 2, 3, 4, 0] rfl) (fun H locs ls hP hS hl => ?_)
  refine lv_aload_n hx hb dX1_blow_24 rfl (lv_at hl 0 rfl) ?_
  refine gt_X1_9 F iX1 (List.mem_cons_of_mem _ (List.mem_append_left _ (List.mem_append_left _ (List.mem_append_left _ (List.mem_of_getElem? (i := 0) rfl))))) hP 0 rfl dX1_blow_25 ?_
  refine lv_aload_n hx hb dX1_blow_28 rfl (lv_at hl 1 rfl) ?_
  refine gt_X1_18 F iX3 (F.2.2.1.f 19 rfl) hP 3 rfl dX1_blow_29 ?_
  refine lv_lconst (v := 1) hx hb dX1_blow_32 (by decide) ?_
  obtain ⟨hg14, h⟩ := gd_e h
  refine r_ls F hP hS 1 rfl rfl hg14 dX1_blow_33 (fun H locs hP hS => ?_)
  have hP : WD D A [(a_z, .inr (1, [.ref a_z_chances, .ref a_z_next, .long z_all])), (a_z_chances, .inl (cJ, 64, .inr (.inl (vp_updL t13 v0_ship.toNatClampNeg 1)))), (a_z_next, .inl (cJ, 64, .inr (.inl z_next))), (a_v0, .inr (3, [.ref a_v0_cells, .int v0_places, .ref a_v0_kinds, .ref a_v0_figures, .ref a_v0_longings, .ref a_v0_seas, .int v0_hands, .int v0_aboard, .int v0_ship, .int v0_day, .int v0_rows, .int v0_columns])), (a_v0_cells, .inl (cI, 6, .inl v0_cells)), (a_v0_kinds, .inl (cI, 7, .inl v0_kinds)), (a_v0_figures, .inl (cI, 7, .inl v0_figures)), (a_v0_longings, .inl (cI, 7, .inl v0_longings)), (a_v0_seas, .inl (cI, 7, .inl v0_seas))] H := hP
  refine lv_aload_n hx hb dX1_blow_34 rfl (lv_at hl 0 rfl) ?_
  refine lv_lconst (v := 1) hx hb dX1_blow_35 (by decide) ?_
  refine pt_X1_24 F iX1 (List.mem_cons_of_mem _ (List.mem_append_left _ (List.mem_append_left _ (List.mem_append_left _ (List.mem_of_getElem? (i := 1) rfl))))) hP hS 0 rfl dX1_blow_36 (fun H locs hP hS => ?_)
  have hP : WD D A [(a_z, .inr (1, [.ref a_z_chances, .ref a_z_next, .long 1])), (a_z_chances, .inl (cJ, 64, .inr (.inl (vp_updL t13 v0_ship.toNatClampNeg 1)))), (a_z_next, .inl (cJ, 64, .inr (.inl z_next))), (a_v0, .inr (3, [.ref a_v0_cells, .int v0_places, .ref a_v0_kinds, .ref a_v0_figures, .ref a_v0_longings, .ref a_v0_seas, .int v0_hands, .int v0_aboard, .int v0_ship, .int v0_day, .int v0_rows, .int v0_columns])), (a_v0_cells, .inl (cI, 6, .inl v0_cells)), (a_v0_kinds, .inl (cI, 7, .inl v0_kinds)), (a_v0_figures, .inl (cI, 7, .inl v0_figures)), (a_v0_longings, .inl (cI, 7, .inl v0_longings)), (a_v0_seas, .inl (cI, 7, .inl v0_seas))] H := hP
  refine lv_iconst (v := 0) hx hb dX1_blow_39 (by decide) ?_
  refine lv_istore (lv' := [(4, .int 0), (0, .ref a_z), (1, .ref a_v0), (2, .int p1), (3, .int p2)]) hx hb dX1_blow_40 hl (by decide) rfl (fun ls hl => ?_)
  obtain ⟨t25, t26, t27, t28, t29, t30, t31, t32, hk33, h⟩ := bd8_e h
  refine L42 p1 p2 g 0 1 (vp_updL t13 v0_ship.toNatClampNeg 1) z_next v0_ship v0_day v0_rows v0_columns v0_seas t25 t26 t27 t28 t29 t30 t31 t32 H locs ls hk33 hP hS (lv_sub hl [1, 2, 3, 4, 0] rfl) (fun H locs ls hP hS hl => ?_)
  exact hret 75 H locs ls t25 t26 t27 t28 t29 t30 t31 t32 h dX1_blow_75 hP hS
theorem eSX2_take : yX2_take.cls ≠ "java/lang/invoke/MethodHandle" ∧ yX2_take.cls ≠ "java/lang/invoke/VarHandle" ∧ (parseMethodDescriptor yX2_take.desc).map (fun d => d.parameters.length) = some 1 := by decide +kernel
theorem eVX2_take : yX2_take.cls = RX2 ∧ yX2_take.cls ≠ "java/lang/invoke/MethodHandle" ∧ yX2_take.cls ≠ "java/lang/invoke/VarHandle" ∧ (parseMethodDescriptor yX2_take.desc).map (fun d => d.parameters.length) = some 1 := ⟨rfl, eSX2_take⟩
abbrev rmX2_take : Room := { frames := 0, cells := 0, slots := 0, locals := 0 }
def fX2_take (g : Nat) (p0 : Int32) (z_size : Int32) (z_signs : Nat → Int32) : Option (Int32 × (Nat → Int32)) := if 96 ≤ z_size then (some (z_size, z_signs)) else (gd (inB z_size 96) (some (z_size + 1, upd z_signs z_size.toNatClampNeg p0)))
set_option maxHeartbeats 4000000 in
set_option maxRecDepth 100000 in
theorem kX2_take (l : Launch) (D : va_G) (cI cJ : ClassId) (sz g : Nat) (a_z a_z_signs : Nat) (z_size : Int32) (z_signs : Nat → Int32) (p0 : Int32) (n_z_size : Int32) (n_z_signs : Nat → Int32) (hf : fX2_take g p0 z_size z_signs = some (n_z_size, n_z_signs)) : Met l yX2_take wsX2_take rmX2_take (va_Pc [.ref a_z, .int p0] (sPc D (tyL cI cJ) [(a_z, .inr (2, [.ref a_z_signs, .int z_size])), (a_z_signs, .inl (cI, 96, .inl z_signs))] sz)) (qV D (tyL cI cJ) [(a_z, .inr (2, [.ref a_z_signs, .int z_size])), (a_z_signs, .inl (cI, 96, .inl z_signs))] sz [(a_z, .inr (2, [.ref a_z_signs, .int n_z_size])), (a_z_signs, .inl (cI, 96, .inl n_z_signs))]) 0 0 (va_A [(a_z, .inr (2, [.ref a_z_signs, .int z_size])), (a_z_signs, .inl (cI, 96, .inl z_signs))] sz) := by
  refine st_v (cc := cX2_take) (maxL := 2) (by decide) rfl (Nat.le_of_ble_eq_true rfl) ?_
  intro p e s m args below meth c A Q F hret0 H locs hP hS ls hl
  have F : Cx p s m args c cX2_take 2 wsX2_take RX2 D (tyL cI cJ) A := F
  have hx := F.1.1
  have hb := F.1.2.1
  have hown := F.1.2.2.2.1
  have hts := F.1.2.2.2.2
  have iX2 : ∀ w ∈ wsX20, w ∈ wsX2_take := fun w h => (List.mem_cons_of_mem _ (List.mem_append_right _ h))
  have hret : ∀ (pc : Nat) (H : Heap) (locs : List Loc) (ls : Array Slot) (m_z_size : Int32) (m_z_signs : Nat → Int32), some (m_z_size, m_z_signs) = some (n_z_size, n_z_signs) → decode cX2_take pc = .ok (.return_, 1) → WD D A [(a_z, .inr (2, [.ref a_z_signs, .int m_z_size])), (a_z_signs, .inl (cI, 96, .inl m_z_signs))] H → va_S A s.heap H locs → W p l e rmX2_take s m args below meth c H locs 0 0 Q (F0 m pc ls []) := by
    intro pc H locs ls m_z_size m_z_signs h hd hP hS
    cases h
    exact hret0 pc H locs ls hd hP hS
  have hl : lv_has ls 2 [(0, .ref a_z), (1, .int p0)] := hl
  have h := hf
  unfold fX2_take at h
  refine lv_aload_n hx hb dX2_take_0 rfl (lv_at hl 0 rfl) ?_
  refine gt_X2_15 F iX2 (List.mem_cons_of_mem _ (List.mem_append_left _ (List.mem_of_getElem? (i := 0) rfl))) hP 0 rfl dX2_take_1 ?_
  refine lv_bipush (v := 96) hx hb dX2_take_4 (by decide) ?_
  refine lv_icmp_ge (tgt := 29) hx hb dX2_take_6 (by decide) (fun hc3 => ?_) (fun hc3 => ?_)
  · have h := it_p hc3 h
    exact hret 29 H locs ls z_size z_signs h dX2_take_29 hP hS
  · have h := it_n hc3 h
    refine lv_aload_n hx hb dX2_take_9 rfl (lv_at hl 0 rfl) ?_
    refine gt_X2_9 F iX2 (List.mem_cons_of_mem _ (List.mem_append_left _ (List.mem_of_getElem? (i := 1) rfl))) hP 0 rfl dX2_take_10 ?_
    refine lv_aload_n hx hb dX2_take_13 rfl (lv_at hl 0 rfl) ?_
    refine gt_X2_15 F iX2 (List.mem_cons_of_mem _ (List.mem_append_left _ (List.mem_of_getElem? (i := 0) rfl))) hP 0 rfl dX2_take_14 ?_
    refine lv_iload_n hx hb dX2_take_17 rfl (lv_at hl 1 rfl) ?_
    obtain ⟨hg4, h⟩ := gd_e h
    refine r_is F hP hS 1 rfl rfl hg4 dX2_take_18 (fun H locs hP hS => ?_)
    have hP : WD D A [(a_z, .inr (2, [.ref a_z_signs, .int z_size])), (a_z_signs, .inl (cI, 96, .inl (upd z_signs z_size.toNatClampNeg p0)))] H := hP
    refine lv_aload_n hx hb dX2_take_19 rfl (lv_at hl 0 rfl) ?_
    refine lv_dup hx hb dX2_take_20 rfl ?_
    refine gt_X2_15 F iX2 (List.mem_cons_of_mem _ (List.mem_append_left _ (List.mem_of_getElem? (i := 0) rfl))) hP 0 rfl dX2_take_21 ?_
    refine lv_iconst (v := 1) hx hb dX2_take_24 (by decide) ?_
    refine lv_iadd hx hb dX2_take_25 ?_
    refine pt_X2_15 F iX2 (List.mem_cons_of_mem _ (List.mem_append_left _ (List.mem_of_getElem? (i := 0) rfl))) hP hS 0 rfl dX2_take_26 (fun H locs hP hS => ?_)
    have hP : WD D A [(a_z, .inr (2, [.ref a_z_signs, .int (z_size + 1)])), (a_z_signs, .inl (cI, 96, .inl (upd z_signs z_size.toNatClampNeg p0)))] H := hP
    exact hret 29 H locs ls (z_size + 1) (upd z_signs z_size.toNatClampNeg p0) h dX2_take_29 hP hS
theorem eSX2_signAt : yX2_signAt.cls ≠ "java/lang/invoke/MethodHandle" ∧ yX2_signAt.cls ≠ "java/lang/invoke/VarHandle" ∧ (parseMethodDescriptor yX2_signAt.desc).map (fun d => d.parameters.length) = some 1 := by decide +kernel
theorem eVX2_signAt : yX2_signAt.cls = RX2 ∧ yX2_signAt.cls ≠ "java/lang/invoke/MethodHandle" ∧ yX2_signAt.cls ≠ "java/lang/invoke/VarHandle" ∧ (parseMethodDescriptor yX2_signAt.desc).map (fun d => d.parameters.length) = some 1 := ⟨rfl, eSX2_signAt⟩
abbrev rmX2_signAt : Room := { frames := 0, cells := 0, slots := 0, locals := 0 }
def fX2_signAt (g : Nat) (p0 : Int32) (z_size : Int32) (z_signs : Nat → Int32) : Option (Int32) := if p0 < 0 then (some 0) else (if z_size ≤ p0 then (some 0) else (gd (inB p0 96) (some (z_signs p0.toNatClampNeg))))
set_option maxHeartbeats 4000000 in
set_option maxRecDepth 100000 in
theorem kX2_signAt (l : Launch) (D : va_G) (cI cJ : ClassId) (sz g : Nat) (a_z a_z_signs : Nat) (z_size : Int32) (z_signs : Nat → Int32) (p0 : Int32) (r : Int32) (hf : fX2_signAt g p0 z_size z_signs = some r) : Met l yX2_signAt wsX2_signAt rmX2_signAt (va_Pc [.ref a_z, .int p0] (sPc D (tyL cI cJ) [(a_z, .inr (2, [.ref a_z_signs, .int z_size])), (a_z_signs, .inl (cI, 96, .inl z_signs))] sz)) (qI D (tyL cI cJ) [(a_z, .inr (2, [.ref a_z_signs, .int z_size])), (a_z_signs, .inl (cI, 96, .inl z_signs))] sz [(a_z, .inr (2, [.ref a_z_signs, .int z_size])), (a_z_signs, .inl (cI, 96, .inl z_signs))] r) 0 0 (va_A [(a_z, .inr (2, [.ref a_z_signs, .int z_size])), (a_z_signs, .inl (cI, 96, .inl z_signs))] sz) := by
  refine st_i (cc := cX2_signAt) (maxL := 2) (by decide) rfl (Nat.le_of_ble_eq_true rfl) ?_
  intro p e s m args below meth c A Q F hret0 H locs hP hS ls hl
  have F : Cx p s m args c cX2_signAt 2 wsX2_signAt RX2 D (tyL cI cJ) A := F
  have hx := F.1.1
  have hb := F.1.2.1
  have hown := F.1.2.2.2.1
  have hts := F.1.2.2.2.2
  have iX2 : ∀ w ∈ wsX20, w ∈ wsX2_signAt := fun w h => (List.mem_cons_of_mem _ (List.mem_append_right _ h))
  have hret : ∀ (pc : Nat) (H : Heap) (locs : List Loc) (ls : Array Slot) (r' : Int32), some r' = some r → narrow .int (.int r') = .int r' → decode cX2_signAt pc = .ok (.ireturn, 1) → WD D A [(a_z, .inr (2, [.ref a_z_signs, .int z_size])), (a_z_signs, .inl (cI, 96, .inl z_signs))] H → va_S A s.heap H locs → W p l e rmX2_signAt s m args below meth c H locs 0 0 Q (F0 m pc ls [.int r']) := by
    intro pc H locs ls r' h hn hd hP hS
    cases h
    exact hret0 pc H locs ls hn hd hP hS
  have hl : lv_has ls 2 [(0, .ref a_z), (1, .int p0)] := hl
  have h := hf
  unfold fX2_signAt at h
  refine lv_iload_n hx hb dX2_signAt_0 rfl (lv_at hl 1 rfl) ?_
  refine lv_if_lt (tgt := 21) hx hb dX2_signAt_1 (by decide) (fun hc4 => ?_) (fun hc4 => ?_)
  · have h := it_p hc4 h
    refine lv_iconst (v := 0) hx hb dX2_signAt_21 (by decide) ?_
    exact hret 22 H locs ls 0 h rfl dX2_signAt_22 hP hS
  · have h := it_n hc4 h
    refine lv_iload_n hx hb dX2_signAt_4 rfl (lv_at hl 1 rfl) ?_
    refine lv_aload_n hx hb dX2_signAt_5 rfl (lv_at hl 0 rfl) ?_
    refine gt_X2_15 F iX2 (List.mem_cons_of_mem _ (List.mem_append_left _ (List.mem_of_getElem? (i := 0) rfl))) hP 0 rfl dX2_signAt_6 ?_
    refine lv_icmp_ge (tgt := 21) hx hb dX2_signAt_9 (by decide) (fun hc5 => ?_) (fun hc5 => ?_)
    · have h := it_p hc5 h
      refine lv_iconst (v := 0) hx hb dX2_signAt_21 (by decide) ?_
      exact hret 22 H locs ls 0 h rfl dX2_signAt_22 hP hS
    · have h := it_n hc5 h
      refine lv_aload_n hx hb dX2_signAt_12 rfl (lv_at hl 0 rfl) ?_
      refine gt_X2_9 F iX2 (List.mem_cons_of_mem _ (List.mem_append_left _ (List.mem_of_getElem? (i := 1) rfl))) hP 0 rfl dX2_signAt_13 ?_
      refine lv_iload_n hx hb dX2_signAt_16 rfl (lv_at hl 1 rfl) ?_
      obtain ⟨hg6, h⟩ := gd_e h
      refine r_ia F hP 1 rfl rfl hg6 dX2_signAt_17 ?_
      refine lv_goto (tgt := 22) hx hb dX2_signAt_18 (by decide) ?_
      exact hret 22 H locs ls (z_signs p0.toNatClampNeg) h rfl dX2_signAt_22 hP hS
theorem eSX2_digitAt : yX2_digitAt.cls ≠ "java/lang/invoke/MethodHandle" ∧ yX2_digitAt.cls ≠ "java/lang/invoke/VarHandle" ∧ (parseMethodDescriptor yX2_digitAt.desc).map (fun d => d.parameters.length) = some 1 := by decide +kernel
theorem eVX2_digitAt : yX2_digitAt.cls = RX2 ∧ yX2_digitAt.cls ≠ "java/lang/invoke/MethodHandle" ∧ yX2_digitAt.cls ≠ "java/lang/invoke/VarHandle" ∧ (parseMethodDescriptor yX2_digitAt.desc).map (fun d => d.parameters.length) = some 1 := ⟨rfl, eSX2_digitAt⟩
abbrev rmX2_digitAt : Room := { frames := 1, cells := 0, slots := 0, locals := 21 }
def fX2_digitAt (g : Nat) (p0 : Int32) (z_size : Int32) (z_signs : Nat → Int32) : Option (Int32) := bd1 (fX2_signAt g p0 z_size z_signs) fun r3 => (some (r3 - 48))
set_option maxHeartbeats 4000000 in
set_option maxRecDepth 100000 in
theorem kX2_digitAt (l : Launch) (D : va_G) (cI cJ : ClassId) (sz g : Nat) (a_z a_z_signs : Nat) (z_size : Int32) (z_signs : Nat → Int32) (p0 : Int32) (r : Int32) (hf : fX2_digitAt g p0 z_size z_signs = some r) : Met l yX2_digitAt wsX2_digitAt rmX2_digitAt (va_Pc [.ref a_z, .int p0] (sPc D (tyL cI cJ) [(a_z, .inr (2, [.ref a_z_signs, .int z_size])), (a_z_signs, .inl (cI, 96, .inl z_signs))] sz)) (qI D (tyL cI cJ) [(a_z, .inr (2, [.ref a_z_signs, .int z_size])), (a_z_signs, .inl (cI, 96, .inl z_signs))] sz [(a_z, .inr (2, [.ref a_z_signs, .int z_size])), (a_z_signs, .inl (cI, 96, .inl z_signs))] r) 0 0 (va_A [(a_z, .inr (2, [.ref a_z_signs, .int z_size])), (a_z_signs, .inl (cI, 96, .inl z_signs))] sz) := by
  refine st_i (cc := cX2_digitAt) (maxL := 2) (by decide) rfl (Nat.le_of_ble_eq_true rfl) ?_
  intro p e s m args below meth c A Q F hret0 H locs hP hS ls hl
  have F : Cx p s m args c cX2_digitAt 2 wsX2_digitAt RX2 D (tyL cI cJ) A := F
  have hx := F.1.1
  have hb := F.1.2.1
  have hown := F.1.2.2.2.1
  have hts := F.1.2.2.2.2
  have hret : ∀ (pc : Nat) (H : Heap) (locs : List Loc) (ls : Array Slot) (r' : Int32), some r' = some r → narrow .int (.int r') = .int r' → decode cX2_digitAt pc = .ok (.ireturn, 1) → WD D A [(a_z, .inr (2, [.ref a_z_signs, .int z_size])), (a_z_signs, .inl (cI, 96, .inl z_signs))] H → va_S A s.heap H locs → W p l e rmX2_digitAt s m args below meth c H locs 0 0 Q (F0 m pc ls [.int r']) := by
    intro pc H locs ls r' h hn hd hP hS
    cases h
    exact hret0 pc H locs ls hn hd hP hS
  have hl : lv_has ls 2 [(0, .ref a_z), (1, .int p0)] := hl
  have h := hf
  unfold fX2_digitAt at h
  refine lv_aload_n hx hb dX2_digitAt_0 rfl (lv_at hl 0 rfl) ?_
  refine lv_iload_n hx hb dX2_digitAt_1 rfl (lv_at hl 1 rfl) ?_
  obtain ⟨r3, hk4, h⟩ := bd1_e h
  refine cV_i (rest := []) F (kX2_signAt l D cI cJ H.size g a_z a_z_signs z_size z_signs p0 r3 hk4) (cwV 1 hts gX2_digitAt_X2_signAt rfl rfl rfl eVX2_signAt ⟨Nat.le_of_ble_eq_true rfl, Nat.le_of_ble_eq_true rfl⟩) [0, 1] hP hS (by decide) rfl rfl 0 rfl rfl rfl hl.1 (Nat.le_of_ble_eq_true rfl) ⟨Nat.le_refl _, Nat.le_refl _⟩ rfl dX2_digitAt_2 (fun H locs hP hS => ?_)
  have hP : WD D A [(a_z, .inr (2, [.ref a_z_signs, .int z_size])), (a_z_signs, .inl (cI, 96, .inl z_signs))] H := hP
  refine lv_bipush (v := 48) hx hb dX2_digitAt_5 (by decide) ?_
  refine lv_isub hx hb dX2_digitAt_7 ?_
  exact hret 8 H locs ls (r3 - 48) h rfl dX2_digitAt_8 hP hS
theorem eSX2_twoDigitsAt : yX2_twoDigitsAt.cls ≠ "java/lang/invoke/MethodHandle" ∧ yX2_twoDigitsAt.cls ≠ "java/lang/invoke/VarHandle" ∧ (parseMethodDescriptor yX2_twoDigitsAt.desc).map (fun d => d.parameters.length) = some 1 := by decide +kernel
theorem eVX2_twoDigitsAt : yX2_twoDigitsAt.cls = RX2 ∧ yX2_twoDigitsAt.cls ≠ "java/lang/invoke/MethodHandle" ∧ yX2_twoDigitsAt.cls ≠ "java/lang/invoke/VarHandle" ∧ (parseMethodDescriptor yX2_twoDigitsAt.desc).map (fun d => d.parameters.length) = some 1 := ⟨rfl, eSX2_twoDigitsAt⟩
abbrev rmX2_twoDigitsAt : Room := { frames := 2, cells := 0, slots := 0, locals := 42 }
def fX2_twoDigitsAt (g : Nat) (p0 : Int32) (z_size : Int32) (z_signs : Nat → Int32) : Option (Int32) := bd1 (fX2_digitAt g p0 z_size z_signs) fun r5 => (bd1 (fX2_digitAt g (p0 + 1) z_size z_signs) fun r7 => (some ((10 * r5) + r7)))
set_option maxHeartbeats 4000000 in
set_option maxRecDepth 100000 in
theorem kX2_twoDigitsAt (l : Launch) (D : va_G) (cI cJ : ClassId) (sz g : Nat) (a_z a_z_signs : Nat) (z_size : Int32) (z_signs : Nat → Int32) (p0 : Int32) (r : Int32) (hf : fX2_twoDigitsAt g p0 z_size z_signs = some r) : Met l yX2_twoDigitsAt wsX2_twoDigitsAt rmX2_twoDigitsAt (va_Pc [.ref a_z, .int p0] (sPc D (tyL cI cJ) [(a_z, .inr (2, [.ref a_z_signs, .int z_size])), (a_z_signs, .inl (cI, 96, .inl z_signs))] sz)) (qI D (tyL cI cJ) [(a_z, .inr (2, [.ref a_z_signs, .int z_size])), (a_z_signs, .inl (cI, 96, .inl z_signs))] sz [(a_z, .inr (2, [.ref a_z_signs, .int z_size])), (a_z_signs, .inl (cI, 96, .inl z_signs))] r) 0 0 (va_A [(a_z, .inr (2, [.ref a_z_signs, .int z_size])), (a_z_signs, .inl (cI, 96, .inl z_signs))] sz) := by
  refine st_i (cc := cX2_twoDigitsAt) (maxL := 2) (by decide) rfl (Nat.le_of_ble_eq_true rfl) ?_
  intro p e s m args below meth c A Q F hret0 H locs hP hS ls hl
  have F : Cx p s m args c cX2_twoDigitsAt 2 wsX2_twoDigitsAt RX2 D (tyL cI cJ) A := F
  have hx := F.1.1
  have hb := F.1.2.1
  have hown := F.1.2.2.2.1
  have hts := F.1.2.2.2.2
  have hret : ∀ (pc : Nat) (H : Heap) (locs : List Loc) (ls : Array Slot) (r' : Int32), some r' = some r → narrow .int (.int r') = .int r' → decode cX2_twoDigitsAt pc = .ok (.ireturn, 1) → WD D A [(a_z, .inr (2, [.ref a_z_signs, .int z_size])), (a_z_signs, .inl (cI, 96, .inl z_signs))] H → va_S A s.heap H locs → W p l e rmX2_twoDigitsAt s m args below meth c H locs 0 0 Q (F0 m pc ls [.int r']) := by
    intro pc H locs ls r' h hn hd hP hS
    cases h
    exact hret0 pc H locs ls hn hd hP hS
  have hl : lv_has ls 2 [(0, .ref a_z), (1, .int p0)] := hl
  have h := hf
  unfold fX2_twoDigitsAt at h
  refine lv_bipush (v := 10) hx hb dX2_twoDigitsAt_0 (by decide) ?_
  refine lv_aload_n hx hb dX2_twoDigitsAt_2 rfl (lv_at hl 0 rfl) ?_
  refine lv_iload_n hx hb dX2_twoDigitsAt_3 rfl (lv_at hl 1 rfl) ?_
  obtain ⟨r5, hk6, h⟩ := bd1_e h
  refine cV_i (rest := [.int 10]) F (kX2_digitAt l D cI cJ H.size g a_z a_z_signs z_size z_signs p0 r5 hk6) (cwV 1 hts gX2_twoDigitsAt_X2_digitAt rfl rfl rfl eVX2_digitAt ⟨Nat.le_of_ble_eq_true rfl, Nat.le_of_ble_eq_true rfl⟩) [0, 1] hP hS (by decide) rfl rfl 0 rfl rfl rfl hl.1 (Nat.le_of_ble_eq_true rfl) ⟨Nat.le_refl _, Nat.le_refl _⟩ rfl dX2_twoDigitsAt_4 (fun H locs hP hS => ?_)
  have hP : WD D A [(a_z, .inr (2, [.ref a_z_signs, .int z_size])), (a_z_signs, .inl (cI, 96, .inl z_signs))] H := hP
  refine lv_imul hx hb dX2_twoDigitsAt_7 ?_
  refine lv_aload_n hx hb dX2_twoDigitsAt_8 rfl (lv_at hl 0 rfl) ?_
  refine lv_iload_n hx hb dX2_twoDigitsAt_9 rfl (lv_at hl 1 rfl) ?_
  refine lv_iconst (v := 1) hx hb dX2_twoDigitsAt_10 (by decide) ?_
  refine lv_iadd hx hb dX2_twoDigitsAt_11 ?_
  obtain ⟨r7, hk8, h⟩ := bd1_e h
  refine cV_i (rest := [.int (10 * r5)]) F (kX2_digitAt l D cI cJ H.size g a_z a_z_signs z_size z_signs (p0 + 1) r7 hk8) (cwV 1 hts gX2_twoDigitsAt_X2_digitAt rfl rfl rfl eVX2_digitAt ⟨Nat.le_of_ble_eq_true rfl, Nat.le_of_ble_eq_true rfl⟩) [0, 1] hP hS (by decide) rfl rfl 0 rfl rfl rfl hl.1 (Nat.le_of_ble_eq_true rfl) ⟨Nat.le_refl _, Nat.le_refl _⟩ rfl dX2_twoDigitsAt_12 (fun H locs hP hS => ?_)
  have hP : WD D A [(a_z, .inr (2, [.ref a_z_signs, .int z_size])), (a_z_signs, .inl (cI, 96, .inl z_signs))] H := hP
  refine lv_iadd hx hb dX2_twoDigitsAt_15 ?_
  exact hret 16 H locs ls ((10 * r5) + r7) h rfl dX2_twoDigitsAt_16 hP hS
theorem eSX2_bodyOf : yX2_bodyOf.cls ≠ "java/lang/invoke/MethodHandle" ∧ yX2_bodyOf.cls ≠ "java/lang/invoke/VarHandle" ∧ (parseMethodDescriptor yX2_bodyOf.desc).map (fun d => d.parameters.length) = some 1 := by decide +kernel
theorem eVX2_bodyOf : yX2_bodyOf.cls = RX2 ∧ yX2_bodyOf.cls ≠ "java/lang/invoke/MethodHandle" ∧ yX2_bodyOf.cls ≠ "java/lang/invoke/VarHandle" ∧ (parseMethodDescriptor yX2_bodyOf.desc).map (fun d => d.parameters.length) = some 1 := ⟨rfl, eSX2_bodyOf⟩
abbrev rmX2_bodyOf : Room := { frames := 0, cells := 0, slots := 0, locals := 0 }
def fX2_bodyOf (g : Nat) (p0 : Int32) : Option (Int32) := if p0 = 97 then (some 1) else (if p0 = 100 then (some 2) else (if p0 = 104 then (some 3) else (if p0 = 108 then (some 1) else (if p0 = 109 then (some 2) else (if p0 = 112 then (some 2) else (if p0 = 115 then (some 2) else (some 0)))))))
set_option maxHeartbeats 4000000 in
set_option maxRecDepth 100000 in
theorem kX2_bodyOf (l : Launch) (D : va_G) (cI cJ : ClassId) (sz g : Nat) (p0 : Int32) (r : Int32) (hf : fX2_bodyOf g p0 = some r) : Met l yX2_bodyOf wsX2_bodyOf rmX2_bodyOf (va_Pc [.int p0] (sPc D (tyL cI cJ) [] sz)) (qI D (tyL cI cJ) [] sz [] r) 0 0 (va_A [] sz) := by
  refine st_i (cc := cX2_bodyOf) (maxL := 1) (by decide) rfl (Nat.le_of_ble_eq_true rfl) ?_
  intro p e s m args below meth c A Q F hret0 H locs hP hS ls hl
  have F : Cx p s m args c cX2_bodyOf 1 wsX2_bodyOf RX2 D (tyL cI cJ) A := F
  have hx := F.1.1
  have hb := F.1.2.1
  have hown := F.1.2.2.2.1
  have hts := F.1.2.2.2.2
  have hret : ∀ (pc : Nat) (H : Heap) (locs : List Loc) (ls : Array Slot) (r' : Int32), some r' = some r → narrow .int (.int r') = .int r' → decode cX2_bodyOf pc = .ok (.ireturn, 1) → WD D A [] H → va_S A s.heap H locs → W p l e rmX2_bodyOf s m args below meth c H locs 0 0 Q (F0 m pc ls [.int r']) := by
    intro pc H locs ls r' h hn hd hP hS
    cases h
    exact hret0 pc H locs ls hn hd hP hS
  have hl : lv_has ls 1 [(0, .int p0)] := hl
  have h := hf
  unfold fX2_bodyOf at h
  refine lv_iload_n hx hb dX2_bodyOf_0 rfl (lv_at hl 0 rfl) ?_
  by_cases hc8 : p0 = 97
  · have h := it_p hc8 h
    refine lv_tableIn (off := 91) (tgt := 92) hx hb dX2_bodyOf_1 (by rw [hc8]; decide) (by rw [hc8]; decide) (by rw [hc8]; rfl) (by decide) ?_
    refine lv_iconst (v := 1) hx hb dX2_bodyOf_92 (by decide) ?_
    exact hret 93 H locs ls 1 h rfl dX2_bodyOf_93 hP hS
  · have h := it_n hc8 h
    by_cases hc9 : p0 = 100
    · have h := it_p hc9 h
      refine lv_tableIn (off := 93) (tgt := 94) hx hb dX2_bodyOf_1 (by rw [hc9]; decide) (by rw [hc9]; decide) (by rw [hc9]; rfl) (by decide) ?_
      refine lv_iconst (v := 2) hx hb dX2_bodyOf_94 (by decide) ?_
      exact hret 95 H locs ls 2 h rfl dX2_bodyOf_95 hP hS
    · have h := it_n hc9 h
      by_cases hc10 : p0 = 104
      · have h := it_p hc10 h
        refine lv_tableIn (off := 95) (tgt := 96) hx hb dX2_bodyOf_1 (by rw [hc10]; decide) (by rw [hc10]; decide) (by rw [hc10]; rfl) (by decide) ?_
        refine lv_iconst (v := 3) hx hb dX2_bodyOf_96 (by decide) ?_
        exact hret 97 H locs ls 3 h rfl dX2_bodyOf_97 hP hS
      · have h := it_n hc10 h
        by_cases hc11 : p0 = 108
        · have h := it_p hc11 h
          refine lv_tableIn (off := 91) (tgt := 92) hx hb dX2_bodyOf_1 (by rw [hc11]; decide) (by rw [hc11]; decide) (by rw [hc11]; rfl) (by decide) ?_
          refine lv_iconst (v := 1) hx hb dX2_bodyOf_92 (by decide) ?_
          exact hret 93 H locs ls 1 h rfl dX2_bodyOf_93 hP hS
        · have h := it_n hc11 h
          by_cases hc12 : p0 = 109
          · have h := it_p hc12 h
            refine lv_tableIn (off := 93) (tgt := 94) hx hb dX2_bodyOf_1 (by rw [hc12]; decide) (by rw [hc12]; decide) (by rw [hc12]; rfl) (by decide) ?_
            refine lv_iconst (v := 2) hx hb dX2_bodyOf_94 (by decide) ?_
            exact hret 95 H locs ls 2 h rfl dX2_bodyOf_95 hP hS
          · have h := it_n hc12 h
            by_cases hc13 : p0 = 112
            · have h := it_p hc13 h
              refine lv_tableIn (off := 93) (tgt := 94) hx hb dX2_bodyOf_1 (by rw [hc13]; decide) (by rw [hc13]; decide) (by rw [hc13]; rfl) (by decide) ?_
              refine lv_iconst (v := 2) hx hb dX2_bodyOf_94 (by decide) ?_
              exact hret 95 H locs ls 2 h rfl dX2_bodyOf_95 hP hS
            · have h := it_n hc13 h
              by_cases hc14 : p0 = 115
              · have h := it_p hc14 h
                refine lv_tableIn (off := 93) (tgt := 94) hx hb dX2_bodyOf_1 (by rw [hc14]; decide) (by rw [hc14]; decide) (by rw [hc14]; rfl) (by decide) ?_
                refine lv_iconst (v := 2) hx hb dX2_bodyOf_94 (by decide) ?_
                exact hret 95 H locs ls 2 h rfl dX2_bodyOf_95 hP hS
              · have h := it_n hc14 h
                refine lv_tabD (tgt := 98) [97, 100, 104, 108, 109, 112, 115] hx hb dX2_bodyOf_1 (by decide) (by decide) (List.forall_mem_cons.mpr ⟨lv_neT hc8 (by decide), List.forall_mem_cons.mpr ⟨lv_neT hc9 (by decide), List.forall_mem_cons.mpr ⟨lv_neT hc10 (by decide), List.forall_mem_cons.mpr ⟨lv_neT hc11 (by decide), List.forall_mem_cons.mpr ⟨lv_neT hc12 (by decide), List.forall_mem_cons.mpr ⟨lv_neT hc13 (by decide), List.forall_mem_cons.mpr ⟨lv_neT hc14 (by decide), fun _ h9 => absurd h9 List.not_mem_nil⟩⟩⟩⟩⟩⟩⟩) (by decide) ?_
                refine lv_iconst (v := 0) hx hb dX2_bodyOf_98 (by decide) ?_
                exact hret 99 H locs ls 0 h rfl dX2_bodyOf_99 hP hS
theorem eSX2_lengthOfStatement : yX2_lengthOfStatement.cls ≠ "java/lang/invoke/MethodHandle" ∧ yX2_lengthOfStatement.cls ≠ "java/lang/invoke/VarHandle" ∧ (parseMethodDescriptor yX2_lengthOfStatement.desc).map (fun d => d.parameters.length) = some 1 := by decide +kernel
theorem eVX2_lengthOfStatement : yX2_lengthOfStatement.cls = RX2 ∧ yX2_lengthOfStatement.cls ≠ "java/lang/invoke/MethodHandle" ∧ yX2_lengthOfStatement.cls ≠ "java/lang/invoke/VarHandle" ∧ (parseMethodDescriptor yX2_lengthOfStatement.desc).map (fun d => d.parameters.length) = some 1 := ⟨rfl, eSX2_lengthOfStatement⟩
abbrev rmX2_lengthOfStatement : Room := { frames := 1, cells := 0, slots := 0, locals := 21 }
def fX2_lengthOfStatement (g : Nat) (p0 : Int32) (z_size : Int32) (z_signs : Nat → Int32) : Option (Int32) := bd1 (fX2_signAt g p0 z_size z_signs) fun r5 => (bd1 (fX2_bodyOf g r5) fun r7 => (some (r7 + 2)))
set_option maxHeartbeats 4000000 in
set_option maxRecDepth 100000 in
theorem kX2_lengthOfStatement (l : Launch) (D : va_G) (cI cJ : ClassId) (sz g : Nat) (a_z a_z_signs : Nat) (z_size : Int32) (z_signs : Nat → Int32) (p0 : Int32) (r : Int32) (hf : fX2_lengthOfStatement g p0 z_size z_signs = some r) : Met l yX2_lengthOfStatement wsX2_lengthOfStatement rmX2_lengthOfStatement (va_Pc [.ref a_z, .int p0] (sPc D (tyL cI cJ) [(a_z, .inr (2, [.ref a_z_signs, .int z_size])), (a_z_signs, .inl (cI, 96, .inl z_signs))] sz)) (qI D (tyL cI cJ) [(a_z, .inr (2, [.ref a_z_signs, .int z_size])), (a_z_signs, .inl (cI, 96, .inl z_signs))] sz [(a_z, .inr (2, [.ref a_z_signs, .int z_size])), (a_z_signs, .inl (cI, 96, .inl z_signs))] r) 0 0 (va_A [(a_z, .inr (2, [.ref a_z_signs, .int z_size])), (a_z_signs, .inl (cI, 96, .inl z_signs))] sz) := by
  refine st_i (cc := cX2_lengthOfStatement) (maxL := 2) (by decide) rfl (Nat.le_of_ble_eq_true rfl) ?_
  intro p e s m args below meth c A Q F hret0 H locs hP hS ls hl
  have F : Cx p s m args c cX2_lengthOfStatement 2 wsX2_lengthOfStatement RX2 D (tyL cI cJ) A := F
  have hx := F.1.1
  have hb := F.1.2.1
  have hown := F.1.2.2.2.1
  have hts := F.1.2.2.2.2
  have hret : ∀ (pc : Nat) (H : Heap) (locs : List Loc) (ls : Array Slot) (r' : Int32), some r' = some r → narrow .int (.int r') = .int r' → decode cX2_lengthOfStatement pc = .ok (.ireturn, 1) → WD D A [(a_z, .inr (2, [.ref a_z_signs, .int z_size])), (a_z_signs, .inl (cI, 96, .inl z_signs))] H → va_S A s.heap H locs → W p l e rmX2_lengthOfStatement s m args below meth c H locs 0 0 Q (F0 m pc ls [.int r']) := by
    intro pc H locs ls r' h hn hd hP hS
    cases h
    exact hret0 pc H locs ls hn hd hP hS
  have hl : lv_has ls 2 [(0, .ref a_z), (1, .int p0)] := hl
  have h := hf
  unfold fX2_lengthOfStatement at h
  refine lv_aload_n hx hb dX2_lengthOfStatement_0 rfl (lv_at hl 0 rfl) ?_
  refine lv_iload_n hx hb dX2_lengthOfStatement_1 rfl (lv_at hl 1 rfl) ?_
  obtain ⟨r5, hk6, h⟩ := bd1_e h
  refine cV_i (rest := []) F (kX2_signAt l D cI cJ H.size g a_z a_z_signs z_size z_signs p0 r5 hk6) (cwV 1 hts gX2_lengthOfStatement_X2_signAt rfl rfl rfl eVX2_signAt ⟨Nat.le_of_ble_eq_true rfl, Nat.le_of_ble_eq_true rfl⟩) [0, 1] hP hS (by decide) rfl rfl 0 rfl rfl rfl hl.1 (Nat.le_of_ble_eq_true rfl) ⟨Nat.le_refl _, Nat.le_refl _⟩ rfl dX2_lengthOfStatement_2 (fun H locs hP hS => ?_)
  have hP : WD D A [(a_z, .inr (2, [.ref a_z_signs, .int z_size])), (a_z_signs, .inl (cI, 96, .inl z_signs))] H := hP
  obtain ⟨r7, hk8, h⟩ := bd1_e h
  refine cS_i (rest := []) F (kX2_bodyOf l D cI cJ H.size g r5 r7 hk8) (va_cwS 1 hts gX2_lengthOfStatement_X2_bodyOf rfl rfl rfl eSX2_bodyOf ⟨Nat.le_of_ble_eq_true rfl, Nat.le_of_ble_eq_true rfl⟩) [] hP hS (by decide) rfl rfl rfl hl.1 (Nat.le_of_ble_eq_true rfl) ⟨Nat.le_refl _, Nat.le_refl _⟩ rfl dX2_lengthOfStatement_5 (fun H locs hP hS => ?_)
  have hP : WD D A [(a_z, .inr (2, [.ref a_z_signs, .int z_size])), (a_z_signs, .inl (cI, 96, .inl z_signs))] H := hP
  refine lv_iconst (v := 2) hx hb dX2_lengthOfStatement_8 (by decide) ?_
  refine lv_iadd hx hb dX2_lengthOfStatement_9 ?_
  exact hret 10 H locs ls (r7 + 2) h rfl dX2_lengthOfStatement_10 hP hS
theorem eSX2_fitsBody : yX2_fitsBody.cls ≠ "java/lang/invoke/MethodHandle" ∧ yX2_fitsBody.cls ≠ "java/lang/invoke/VarHandle" ∧ (parseMethodDescriptor yX2_fitsBody.desc).map (fun d => d.parameters.length) = some 3 := by decide +kernel
theorem eVX2_fitsBody : yX2_fitsBody.cls = RX2 ∧ yX2_fitsBody.cls ≠ "java/lang/invoke/MethodHandle" ∧ yX2_fitsBody.cls ≠ "java/lang/invoke/VarHandle" ∧ (parseMethodDescriptor yX2_fitsBody.desc).map (fun d => d.parameters.length) = some 3 := ⟨rfl, eSX2_fitsBody⟩
abbrev rmX2_fitsBody : Room := { frames := 6, cells := 0, slots := 0, locals := 140 }
def fX2_fitsBody (g : Nat) (p0 : Int32) (p1 : Int32) (p2 : Int32) : Option (Int32) := if p0 = 104 then (if p1 = 1 then (bd1 (fX4_kindOf g p2) fun r16 => (if r16 < 0 then (some 0) else (some 1))) else (if p2 < 48 then (some 0) else (if 57 < p2 then (some 0) else (some 1)))) else (if p2 < 48 then (some 0) else (if 57 < p2 then (some 0) else (some 1)))
set_option maxHeartbeats 4000000 in
set_option maxRecDepth 100000 in
theorem kX2_fitsBody (l : Launch) (D : va_G) (cI cJ : ClassId) (sz g : Nat) (p0 : Int32) (p1 : Int32) (p2 : Int32) (r : Int32) (hf : fX2_fitsBody g p0 p1 p2 = some r) : Met l yX2_fitsBody wsX2_fitsBody rmX2_fitsBody (va_Pc [.int p0, .int p1, .int p2] (sPc D (tyL cI cJ) [] sz)) (qI D (tyL cI cJ) [] sz [] r) 0 0 (va_A [] sz) := by
  refine st_i (cc := cX2_fitsBody) (maxL := 3) (by decide) rfl (Nat.le_of_ble_eq_true rfl) ?_
  intro p e s m args below meth c A Q F hret0 H locs hP hS ls hl
  have F : Cx p s m args c cX2_fitsBody 3 wsX2_fitsBody RX2 D (tyL cI cJ) A := F
  have hx := F.1.1
  have hb := F.1.2.1
  have hown := F.1.2.2.2.1
  have hts := F.1.2.2.2.2
  have hret : ∀ (pc : Nat) (H : Heap) (locs : List Loc) (ls : Array Slot) (r' : Int32), some r' = some r → narrow .boolean (.int r') = .int r' → decode cX2_fitsBody pc = .ok (.ireturn, 1) → WD D A [] H → va_S A s.heap H locs → W p l e rmX2_fitsBody s m args below meth c H locs 0 0 Q (F0 m pc ls [.int r']) := by
    intro pc H locs ls r' h hn hd hP hS
    cases h
    exact hret0 pc H locs ls hn hd hP hS
  have hl : lv_has ls 3 [(0, .int p0), (1, .int p1), (2, .int p2)] := hl
  have h := hf
  unfold fX2_fitsBody at h
  refine lv_iload_n hx hb dX2_fitsBody_0 rfl (lv_at hl 0 rfl) ?_
  refine lv_bipush (v := 104) hx hb dX2_fitsBody_1 (by decide) ?_
  refine lv_icmp_ne (tgt := 24) hx hb dX2_fitsBody_3 (by decide) (fun hc10 => ?_) (fun hc10 => ?_)
  · have h := it_n hc10 h
    refine lv_iload_n hx hb dX2_fitsBody_24 rfl (lv_at hl 2 rfl) ?_
    refine lv_bipush (v := 48) hx hb dX2_fitsBody_25 (by decide) ?_
    refine lv_icmp_lt (tgt := 40) hx hb dX2_fitsBody_27 (by decide) (fun hc11 => ?_) (fun hc11 => ?_)
    · have h := it_p hc11 h
      refine lv_iconst (v := 0) hx hb dX2_fitsBody_40 (by decide) ?_
      exact hret 41 H locs ls 0 h rfl dX2_fitsBody_41 hP hS
    · have h := it_n hc11 h
      refine lv_iload_n hx hb dX2_fitsBody_30 rfl (lv_at hl 2 rfl) ?_
      refine lv_bipush (v := 57) hx hb dX2_fitsBody_31 (by decide) ?_
      refine lv_icmp_gt (tgt := 40) hx hb dX2_fitsBody_33 (by decide) (fun hc12 => ?_) (fun hc12 => ?_)
      · have h := it_p hc12 h
        refine lv_iconst (v := 0) hx hb dX2_fitsBody_40 (by decide) ?_
        exact hret 41 H locs ls 0 h rfl dX2_fitsBody_41 hP hS
      · have h := it_n hc12 h
        refine lv_iconst (v := 1) hx hb dX2_fitsBody_36 (by decide) ?_
        refine lv_goto (tgt := 41) hx hb dX2_fitsBody_37 (by decide) ?_
        exact hret 41 H locs ls 1 h rfl dX2_fitsBody_41 hP hS
  · have h := it_p hc10 h
    refine lv_iload_n hx hb dX2_fitsBody_6 rfl (lv_at hl 1 rfl) ?_
    refine lv_iconst (v := 1) hx hb dX2_fitsBody_7 (by decide) ?_
    refine lv_icmp_ne (tgt := 24) hx hb dX2_fitsBody_8 (by decide) (fun hc13 => ?_) (fun hc13 => ?_)
    · have h := it_n hc13 h
      refine lv_iload_n hx hb dX2_fitsBody_24 rfl (lv_at hl 2 rfl) ?_
      refine lv_bipush (v := 48) hx hb dX2_fitsBody_25 (by decide) ?_
      refine lv_icmp_lt (tgt := 40) hx hb dX2_fitsBody_27 (by decide) (fun hc14 => ?_) (fun hc14 => ?_)
      · have h := it_p hc14 h
        refine lv_iconst (v := 0) hx hb dX2_fitsBody_40 (by decide) ?_
        exact hret 41 H locs ls 0 h rfl dX2_fitsBody_41 hP hS
      · have h := it_n hc14 h
        refine lv_iload_n hx hb dX2_fitsBody_30 rfl (lv_at hl 2 rfl) ?_
        refine lv_bipush (v := 57) hx hb dX2_fitsBody_31 (by decide) ?_
        refine lv_icmp_gt (tgt := 40) hx hb dX2_fitsBody_33 (by decide) (fun hc15 => ?_) (fun hc15 => ?_)
        · have h := it_p hc15 h
          refine lv_iconst (v := 0) hx hb dX2_fitsBody_40 (by decide) ?_
          exact hret 41 H locs ls 0 h rfl dX2_fitsBody_41 hP hS
        · have h := it_n hc15 h
          refine lv_iconst (v := 1) hx hb dX2_fitsBody_36 (by decide) ?_
          refine lv_goto (tgt := 41) hx hb dX2_fitsBody_37 (by decide) ?_
          exact hret 41 H locs ls 1 h rfl dX2_fitsBody_41 hP hS
    · have h := it_p hc13 h
      refine lv_iload_n hx hb dX2_fitsBody_11 rfl (lv_at hl 2 rfl) ?_
      obtain ⟨r16, hk17, h⟩ := bd1_e h
      refine cN_i (rest := []) F (kX4_kindOf l D cI cJ H.size g p2 r16 hk17) ⟨va_cnB 1 hts gX2_fitsBody_X4_kindOf_n29 rfl rfl rfl (F.2.2.1.m 4 rfl) (hts (.initialized RX4) (List.mem_cons_of_mem _ (List.mem_append_left _ (List.mem_of_getElem? (i := 1) rfl)))) eSX4_kindOf ⟨Nat.le_of_ble_eq_true rfl, Nat.le_of_ble_eq_true rfl⟩, hts (.static yX4_kindOf) (List.mem_cons_of_mem _ (List.mem_append_left _ (List.mem_of_getElem? (i := 0) rfl))), trivial⟩ [] hP hS (by decide) rfl rfl rfl hl.1 (Nat.le_of_ble_eq_true rfl) ⟨Nat.le_refl _, Nat.le_refl _⟩ rfl dX2_fitsBody_12 (fun H locs hP hS => ?_)
      have hP : WD D A [] H := hP
      refine lv_if_lt (tgt := 22) hx hb dX2_fitsBody_15 (by decide) (fun hc18 => ?_) (fun hc18 => ?_)
      · have h := it_p hc18 h
        refine lv_iconst (v := 0) hx hb dX2_fitsBody_22 (by decide) ?_
        exact hret 23 H locs ls 0 h rfl dX2_fitsBody_23 hP hS
      · have h := it_n hc18 h
        refine lv_iconst (v := 1) hx hb dX2_fitsBody_18 (by decide) ?_
        refine lv_goto (tgt := 23) hx hb dX2_fitsBody_19 (by decide) ?_
        exact hret 23 H locs ls 1 h rfl dX2_fitsBody_23 hP hS
theorem eSX2_firstMisfit : yX2_firstMisfit.cls ≠ "java/lang/invoke/MethodHandle" ∧ yX2_firstMisfit.cls ≠ "java/lang/invoke/VarHandle" ∧ (parseMethodDescriptor yX2_firstMisfit.desc).map (fun d => d.parameters.length) = some 0 := by decide +kernel
theorem eVX2_firstMisfit : yX2_firstMisfit.cls = RX2 ∧ yX2_firstMisfit.cls ≠ "java/lang/invoke/MethodHandle" ∧ yX2_firstMisfit.cls ≠ "java/lang/invoke/VarHandle" ∧ (parseMethodDescriptor yX2_firstMisfit.desc).map (fun d => d.parameters.length) = some 0 := ⟨rfl, eSX2_firstMisfit⟩
abbrev rmX2_firstMisfit : Room := { frames := 7, cells := 0, slots := 0, locals := 162 }
def fX2_firstMisfit_L6_b (g : Nat) (z_size : Int32) (z_signs : Nat → Int32) (self : Int32 → Int32 → Int32 → Option ((Int32) ⊕ (Int32))) (x1_L6 : Int32) (x2_L6 : Int32) (x3_L6 : Int32) : Option ((Int32) ⊕ (Int32)) := if z_size ≤ x3_L6 then (some (.inl x2_L6)) else (gd (inB x3_L6 96) (if x2_L6 = 0 then (bd1 (fX2_bodyOf g (z_signs x3_L6.toNatClampNeg)) fun r14 => (if r14 = 0 then (some (.inr x3_L6)) else (self (z_signs x3_L6.toNatClampNeg) 1 (x3_L6 + 1)))) else (bd1 (fX2_bodyOf g x1_L6) fun r7 => (if r7 < x2_L6 then (if (z_signs x3_L6.toNatClampNeg) = 59 then (self x1_L6 0 (x3_L6 + 1)) else (some (.inr x3_L6))) else (bd1 (fX2_fitsBody g x1_L6 x2_L6 (z_signs x3_L6.toNatClampNeg)) fun r11 => (if r11 = 0 then (some (.inr x3_L6)) else (self x1_L6 (x2_L6 + 1) (x3_L6 + 1))))))))
def fX2_firstMisfit_L6 (g : Nat) (z_size : Int32) (z_signs : Nat → Int32) (n : Nat) : Int32 → Int32 → Int32 → Option ((Int32) ⊕ (Int32)) := lp (fX2_firstMisfit_L6_b g z_size z_signs) (fun _ _ _ => none) n
def fX2_firstMisfit (g : Nat) (z_size : Int32) (z_signs : Nat → Int32) : Option (Int32) := bs1 (fX2_firstMisfit_L6 g z_size z_signs g 0 0 0) (fun q => some q) fun t17 => (if z_size ≤ 0 then (some z_size) else (if t17 = 0 then (some (-9)) else (some z_size)))
set_option maxHeartbeats 4000000 in
set_option maxRecDepth 100000 in
theorem kX2_firstMisfit (l : Launch) (D : va_G) (cI cJ : ClassId) (sz g : Nat) (a_z a_z_signs : Nat) (z_size : Int32) (z_signs : Nat → Int32) (r : Int32) (hf : fX2_firstMisfit g z_size z_signs = some r) : Met l yX2_firstMisfit wsX2_firstMisfit rmX2_firstMisfit (va_Pc [.ref a_z] (sPc D (tyL cI cJ) [(a_z, .inr (2, [.ref a_z_signs, .int z_size])), (a_z_signs, .inl (cI, 96, .inl z_signs))] sz)) (qI D (tyL cI cJ) [(a_z, .inr (2, [.ref a_z_signs, .int z_size])), (a_z_signs, .inl (cI, 96, .inl z_signs))] sz [(a_z, .inr (2, [.ref a_z_signs, .int z_size])), (a_z_signs, .inl (cI, 96, .inl z_signs))] r) 0 0 (va_A [(a_z, .inr (2, [.ref a_z_signs, .int z_size])), (a_z_signs, .inl (cI, 96, .inl z_signs))] sz) := by
  refine st_i (cc := cX2_firstMisfit) (maxL := 5) (by decide) rfl (Nat.le_of_ble_eq_true rfl) ?_
  intro p e s m args below meth c A Q F hret0 H locs hP hS ls hl
  have F : Cx p s m args c cX2_firstMisfit 5 wsX2_firstMisfit RX2 D (tyL cI cJ) A := F
  have hx := F.1.1
  have hb := F.1.2.1
  have hown := F.1.2.2.2.1
  have hts := F.1.2.2.2.2
  have iX2 : ∀ w ∈ wsX20, w ∈ wsX2_firstMisfit := fun w h => (List.mem_cons_of_mem _ (List.mem_append_right _ h))
  have hret : ∀ (pc : Nat) (H : Heap) (locs : List Loc) (ls : Array Slot) (r' : Int32), some r' = some r → narrow .int (.int r') = .int r' → decode cX2_firstMisfit pc = .ok (.ireturn, 1) → WD D A [(a_z, .inr (2, [.ref a_z_signs, .int z_size])), (a_z_signs, .inl (cI, 96, .inl z_signs))] H → va_S A s.heap H locs → W p l e rmX2_firstMisfit s m args below meth c H locs 0 0 Q (F0 m pc ls [.int r']) := by
    intro pc H locs ls r' h hn hd hP hS
    cases h
    exact hret0 pc H locs ls hn hd hP hS
  have L6 : ∀ (n : Nat) (x1_L6 : Int32) (x2_L6 : Int32) (x3_L6 : Int32) (x : (Int32) ⊕ (Int32)) (H : Heap) (locs : List Loc) (ls : Array Slot), fX2_firstMisfit_L6 g z_size z_signs n x1_L6 x2_L6 x3_L6 = some x → WD D A [(a_z, .inr (2, [.ref a_z_signs, .int z_size])), (a_z_signs, .inl (cI, 96, .inl z_signs))] H → va_S A s.heap H locs → lv_has ls 5 [(0, .ref a_z), (1, .int x1_L6), (2, .int x2_L6), (3, .int x3_L6)] → (∀ (tt0 : Int32), .inl tt0 = x → (∀ (H : Heap) (locs : List Loc) (ls : Array Slot), WD D A [(a_z, .inr (2, [.ref a_z_signs, .int z_size])), (a_z_signs, .inl (cI, 96, .inl z_signs))] H → va_S A s.heap H locs → lv_has ls 5 [(0, .ref a_z), (2, .int tt0)] → W p l e rmX2_firstMisfit s m args below meth c H locs 0 0 Q (F0 m 86 ls []))) → (∀ q : Int32, .inr q = x → some q = some r) → W p l e rmX2_firstMisfit s m args below meth c H locs 0 0 Q (F0 m 6 ls []) := by
    intro n
    induction n with
    | zero =>
      intro x1_L6 x2_L6 x3_L6 x H locs ls h
      exact (no_some h).elim
    | succ n ih =>
      intro x1_L6 x2_L6 x3_L6 x H locs ls h hP hS hl kE kR
      have h : fX2_firstMisfit_L6_b g z_size z_signs (fX2_firstMisfit_L6 g z_size z_signs n) x1_L6 x2_L6 x3_L6 = some x := h
      unfold fX2_firstMisfit_L6_b at h
      refine lv_iload_n hx hb dX2_firstMisfit_6 rfl (lv_at hl 3 rfl) ?_
      refine lv_aload_n hx hb dX2_firstMisfit_7 rfl (lv_at hl 0 rfl) ?_
      refine gt_X2_15 F iX2 (List.mem_cons_of_mem _ (List.mem_append_left _ (List.mem_append_left _ (List.mem_of_getElem? (i := 0) rfl)))) hP 0 rfl dX2_firstMisfit_8 ?_
      refine lv_icmp_ge (tgt := 86) hx hb dX2_firstMisfit_11 (by decide) (fun hc4 => ?_) (fun hc4 => ?_)
      · have h := it_p hc4 h
        cases h
        exact kE _ rfl H locs ls hP hS (lv_sub hl [0, 2] rfl)
      · have h := it_n hc4 h
        refine lv_aload_n hx hb dX2_firstMisfit_14 rfl (lv_at hl 0 rfl) ?_
        refine gt_X2_9 F iX2 (List.mem_cons_of_mem _ (List.mem_append_left _ (List.mem_append_left _ (List.mem_of_getElem? (i := 1) rfl)))) hP 0 rfl dX2_firstMisfit_15 ?_
        refine lv_iload_n hx hb dX2_firstMisfit_18 rfl (lv_at hl 3 rfl) ?_
        obtain ⟨hg5, h⟩ := gd_e h
        refine r_ia F hP 1 rfl rfl hg5 dX2_firstMisfit_19 ?_
        refine lv_istore (lv' := [(4, .int (z_signs x3_L6.toNatClampNeg)), (0, .ref a_z), (1, .int x1_L6), (2, .int x2_L6), (3, .int x3_L6)]) hx hb dX2_firstMisfit_20 hl (by decide) rfl (fun ls hl => ?_)
        refine lv_iload_n hx hb dX2_firstMisfit_22 rfl (lv_at hl 3 rfl) ?_
        refine lv_if_ne (tgt := 40) hx hb dX2_firstMisfit_23 (by decide) (fun hc6 => ?_) (fun hc6 => ?_)
        · have h := it_n hc6 h
          refine lv_iload_n hx hb dX2_firstMisfit_40 rfl (lv_at hl 3 rfl) ?_
          refine lv_iload_n hx hb dX2_firstMisfit_41 rfl (lv_at hl 2 rfl) ?_
          obtain ⟨r7, hk8, h⟩ := bd1_e h
          refine cS_i (rest := [.int x2_L6]) F (kX2_bodyOf l D cI cJ H.size g x1_L6 r7 hk8) (va_cwS 1 hts gX2_firstMisfit_X2_bodyOf rfl rfl rfl eSX2_bodyOf ⟨Nat.le_of_ble_eq_true rfl, Nat.le_of_ble_eq_true rfl⟩) [] hP hS (by decide) rfl rfl rfl hl.1 (Nat.le_of_ble_eq_true rfl) ⟨Nat.le_refl _, Nat.le_refl _⟩ rfl dX2_firstMisfit_42 (fun H locs hP hS => ?_)
          have hP : WD D A [(a_z, .inr (2, [.ref a_z_signs, .int z_size])), (a_z_signs, .inl (cI, 96, .inl z_signs))] H := hP
          refine lv_icmp_gt (tgt := 66) hx hb dX2_firstMisfit_45 (by decide) (fun hc9 => ?_) (fun hc9 => ?_)
          · have h := it_p hc9 h
            refine lv_iload hx hb dX2_firstMisfit_66 (lv_at hl 0 rfl) ?_
            refine lv_bipush (v := 59) hx hb dX2_firstMisfit_68 (by decide) ?_
            refine lv_icmp_ne (tgt := 78) hx hb dX2_firstMisfit_70 (by decide) (fun hc10 => ?_) (fun hc10 => ?_)
            · have h := it_n hc10 h
              refine lv_iload_n hx hb dX2_firstMisfit_78 rfl (lv_at hl 4 rfl) ?_
              have h := kR _ (Option.some.inj h)
              exact hret 79 H locs ls x3_L6 h rfl dX2_firstMisfit_79 hP hS
            · have h := it_p hc10 h
              refine lv_iconst (v := 0) hx hb dX2_firstMisfit_73 (by decide) ?_
              refine lv_istore_n (lv' := [(2, .int 0), (4, .int (z_signs x3_L6.toNatClampNeg)), (0, .ref a_z), (1, .int x1_L6), (3, .int x3_L6)]) hx hb dX2_firstMisfit_74 rfl hl (by decide) rfl (fun ls hl => ?_)
              refine lv_goto (tgt := 80) hx hb dX2_firstMisfit_75 (by decide) ?_
              refine lv_iinc (v := x3_L6 + 1) (lv' := [(3, .int (x3_L6 + 1)), (2, .int 0), (4, .int (z_signs x3_L6.toNatClampNeg)), (0, .ref a_z), (1, .int x1_L6)]) hx hb dX2_firstMisfit_80 hl (k := 4) rfl rfl (by decide) rfl (fun ls hl => ?_)
              refine lv_goto (tgt := 6) hx hb dX2_firstMisfit_83 (by decide) ?_
              exact ih x1_L6 0 (x3_L6 + 1) x H locs ls h hP hS (lv_sub hl [3, 4, 1, 0] rfl) kE kR
          · have h := it_n hc9 h
            refine lv_iload_n hx hb dX2_firstMisfit_48 rfl (lv_at hl 2 rfl) ?_
            refine lv_iload_n hx hb dX2_firstMisfit_49 rfl (lv_at hl 3 rfl) ?_
            refine lv_iload hx hb dX2_firstMisfit_50 (lv_at hl 0 rfl) ?_
            obtain ⟨r11, hk12, h⟩ := bd1_e h
            refine cS_i (rest := []) F (kX2_fitsBody l D cI cJ H.size g x1_L6 x2_L6 (z_signs x3_L6.toNatClampNeg) r11 hk12) (va_cwS 3 hts gX2_firstMisfit_X2_fitsBody rfl rfl rfl eSX2_fitsBody ⟨Nat.le_of_ble_eq_true rfl, Nat.le_of_ble_eq_true rfl⟩) [] hP hS (by decide) rfl rfl rfl hl.1 (Nat.le_of_ble_eq_true rfl) ⟨Nat.le_refl _, Nat.le_refl _⟩ rfl dX2_firstMisfit_52 (fun H locs hP hS => ?_)
            have hP : WD D A [(a_z, .inr (2, [.ref a_z_signs, .int z_size])), (a_z_signs, .inl (cI, 96, .inl z_signs))] H := hP
            refine lv_if_ne (tgt := 60) hx hb dX2_firstMisfit_55 (by decide) (fun hc13 => ?_) (fun hc13 => ?_)
            · have h := it_n hc13 h
              refine lv_iinc (v := x2_L6 + 1) (lv' := [(2, .int (x2_L6 + 1)), (4, .int (z_signs x3_L6.toNatClampNeg)), (0, .ref a_z), (1, .int x1_L6), (3, .int x3_L6)]) hx hb dX2_firstMisfit_60 hl (k := 3) rfl rfl (by decide) rfl (fun ls hl => ?_)
              refine lv_goto (tgt := 80) hx hb dX2_firstMisfit_63 (by decide) ?_
              refine lv_iinc (v := x3_L6 + 1) (lv' := [(3, .int (x3_L6 + 1)), (2, .int (x2_L6 + 1)), (4, .int (z_signs x3_L6.toNatClampNeg)), (0, .ref a_z), (1, .int x1_L6)]) hx hb dX2_firstMisfit_80 hl (k := 4) rfl rfl (by decide) rfl (fun ls hl => ?_)
              refine lv_goto (tgt := 6) hx hb dX2_firstMisfit_83 (by decide) ?_
              exact ih x1_L6 (x2_L6 + 1) (x3_L6 + 1) x H locs ls h hP hS (lv_sub hl [3, 4, 1, 0] rfl) kE kR
            · have h := it_p hc13 h
              refine lv_iload_n hx hb dX2_firstMisfit_58 rfl (lv_at hl 4 rfl) ?_
              have h := kR _ (Option.some.inj h)
              exact hret 59 H locs ls x3_L6 h rfl dX2_firstMisfit_59 hP hS
        · have h := it_p hc6 h
          refine lv_iload hx hb dX2_firstMisfit_26 (lv_at hl 0 rfl) ?_
          refine lv_istore_n (lv' := [(1, .int (z_signs x3_L6.toNatClampNeg)), (4, .int (z_signs x3_L6.toNatClampNeg)), (0, .ref a_z), (2, .int x2_L6), (3, .int x3_L6)]) hx hb dX2_firstMisfit_28 rfl hl (by decide) rfl (fun ls hl => ?_)
          refine lv_iconst (v := 1) hx hb dX2_firstMisfit_29 (by decide) ?_
          refine lv_istore_n (lv' := [(2, .int 1), (1, .int (z_signs x3_L6.toNatClampNeg)), (4, .int (z_signs x3_L6.toNatClampNeg)), (0, .ref a_z), (3, .int x3_L6)]) hx hb dX2_firstMisfit_30 rfl hl (by decide) rfl (fun ls hl => ?_)
          refine lv_iload_n hx hb dX2_firstMisfit_31 rfl (lv_at hl 1 rfl) ?_
          obtain ⟨r14, hk15, h⟩ := bd1_e h
          refine cS_i (rest := []) F (kX2_bodyOf l D cI cJ H.size g (z_signs x3_L6.toNatClampNeg) r14 hk15) (va_cwS 1 hts gX2_firstMisfit_X2_bodyOf rfl rfl rfl eSX2_bodyOf ⟨Nat.le_of_ble_eq_true rfl, Nat.le_of_ble_eq_true rfl⟩) [] hP hS (by decide) rfl rfl rfl hl.1 (Nat.le_of_ble_eq_true rfl) ⟨Nat.le_refl _, Nat.le_refl _⟩ rfl dX2_firstMisfit_32 (fun H locs hP hS => ?_)
          have hP : WD D A [(a_z, .inr (2, [.ref a_z_signs, .int z_size])), (a_z_signs, .inl (cI, 96, .inl z_signs))] H := hP
          refine lv_if_ne (tgt := 80) hx hb dX2_firstMisfit_35 (by decide) (fun hc16 => ?_) (fun hc16 => ?_)
          · have h := it_n hc16 h
            refine lv_iinc (v := x3_L6 + 1) (lv' := [(3, .int (x3_L6 + 1)), (2, .int 1), (1, .int (z_signs x3_L6.toNatClampNeg)), (4, .int (z_signs x3_L6.toNatClampNeg)), (0, .ref a_z)]) hx hb dX2_firstMisfit_80 hl (k := 4) rfl rfl (by decide) rfl (fun ls hl => ?_)
            refine lv_goto (tgt := 6) hx hb dX2_firstMisfit_83 (by decide) ?_
            exact ih (z_signs x3_L6.toNatClampNeg) 1 (x3_L6 + 1) x H locs ls h hP hS (lv_sub hl [4, 2, 1, 0] rfl) kE kR
          · have h := it_p hc16 h
            refine lv_iload_n hx hb dX2_firstMisfit_38 rfl (lv_at hl 4 rfl) ?_
            have h := kR _ (Option.some.inj h)
            exact hret 39 H locs ls x3_L6 h rfl dX2_firstMisfit_39 hP hS
  have hl : lv_has ls 5 [(0, .ref a_z)] := hl
  have h := hf
  unfold fX2_firstMisfit at h
  refine lv_iconst (v := 0) hx hb dX2_firstMisfit_0 (by decide) ?_
  refine lv_istore_n (lv' := [(1, .int 0), (0, .ref a_z)]) hx hb dX2_firstMisfit_1 rfl hl (by decide) rfl (fun ls hl => ?_)
  refine lv_iconst (v := 0) hx hb dX2_firstMisfit_2 (by decide) ?_
  refine lv_istore_n (lv' := [(2, .int 0), (1, .int 0), (0, .ref a_z)]) hx hb dX2_firstMisfit_3 rfl hl (by decide) rfl (fun ls hl => ?_)
  refine lv_iconst (v := 0) hx hb dX2_firstMisfit_4 (by decide) ?_
  refine lv_istore_n (lv' := [(3, .int 0), (2, .int 0), (1, .int 0), (0, .ref a_z)]) hx hb dX2_firstMisfit_5 rfl hl (by decide) rfl (fun ls hl => ?_)
  obtain ⟨x21, hk20, x21a, x21b⟩ := bs1_e h
  refine L6 g 0 0 0 x21 H locs ls hk20 hP hS (lv_sub hl [3, 2, 1, 0] rfl) (fun t17 he22 H locs ls hP hS hl => ?_) (fun q he22 => (x21b q he22.symm))
  have h := x21a t17 he22.symm
  refine lv_aload_n hx hb dX2_firstMisfit_86 rfl (lv_at hl 0 rfl) ?_
  refine gt_X2_15 F iX2 (List.mem_cons_of_mem _ (List.mem_append_left _ (List.mem_append_left _ (List.mem_of_getElem? (i := 0) rfl)))) hP 0 rfl dX2_firstMisfit_87 ?_
  refine lv_if_le (tgt := 102) hx hb dX2_firstMisfit_90 (by decide) (fun hc18 => ?_) (fun hc18 => ?_)
  · have h := it_p hc18 h
    refine lv_aload_n hx hb dX2_firstMisfit_102 rfl (lv_at hl 0 rfl) ?_
    refine gt_X2_15 F iX2 (List.mem_cons_of_mem _ (List.mem_append_left _ (List.mem_append_left _ (List.mem_of_getElem? (i := 0) rfl)))) hP 0 rfl dX2_firstMisfit_103 ?_
    exact hret 106 H locs ls z_size h rfl dX2_firstMisfit_106 hP hS
  · have h := it_n hc18 h
    refine lv_iload_n hx hb dX2_firstMisfit_93 rfl (lv_at hl 1 rfl) ?_
    refine lv_if_ne (tgt := 102) hx hb dX2_firstMisfit_94 (by decide) (fun hc19 => ?_) (fun hc19 => ?_)
    · have h := it_n hc19 h
      refine lv_aload_n hx hb dX2_firstMisfit_102 rfl (lv_at hl 0 rfl) ?_
      refine gt_X2_15 F iX2 (List.mem_cons_of_mem _ (List.mem_append_left _ (List.mem_append_left _ (List.mem_of_getElem? (i := 0) rfl)))) hP 0 rfl dX2_firstMisfit_103 ?_
      exact hret 106 H locs ls z_size h rfl dX2_firstMisfit_106 hP hS
    · have h := it_p hc19 h
      refine lv_bipush (v := (-9)) hx hb dX2_firstMisfit_97 (by decide) ?_
      refine lv_goto (tgt := 106) hx hb dX2_firstMisfit_99 (by decide) ?_
      exact hret 106 H locs ls (-9) h rfl dX2_firstMisfit_106 hP hS
theorem eSX3_becomeLike : yX3_becomeLike.cls ≠ "java/lang/invoke/MethodHandle" ∧ yX3_becomeLike.cls ≠ "java/lang/invoke/VarHandle" ∧ (parseMethodDescriptor yX3_becomeLike.desc).map (fun d => d.parameters.length) = some 1 := by decide +kernel
theorem eVX3_becomeLike : yX3_becomeLike.cls = RX3 ∧ yX3_becomeLike.cls ≠ "java/lang/invoke/MethodHandle" ∧ yX3_becomeLike.cls ≠ "java/lang/invoke/VarHandle" ∧ (parseMethodDescriptor yX3_becomeLike.desc).map (fun d => d.parameters.length) = some 1 := ⟨rfl, eSX3_becomeLike⟩
abbrev rmX3_becomeLike : Room := { frames := 1, cells := 0, slots := 0, locals := 18 }
def fX3_becomeLike (g : Nat) (z_cells : Nat → Int32) (z_kinds : Nat → Int32) (z_figures : Nat → Int32) (z_longings : Nat → Int32) (z_seas : Nat → Int32) (v0_places : Int32) (v0_hands : Int32) (v0_aboard : Int32) (v0_ship : Int32) (v0_day : Int32) (v0_cells : Nat → Int32) (v0_kinds : Nat → Int32) (v0_figures : Nat → Int32) (v0_longings : Nat → Int32) (v0_seas : Nat → Int32) : Option (Int32 × Int32 × Int32 × Int32 × Int32 × (Nat → Int32) × (Nat → Int32) × (Nat → Int32) × (Nat → Int32) × (Nat → Int32)) := some (v0_places, v0_hands, v0_aboard, v0_ship, v0_day, va_cpy v0_cells z_cells 0 0 6, va_cpy v0_kinds z_kinds 0 0 7, va_cpy v0_figures z_figures 0 0 7, va_cpy v0_longings z_longings 0 0 7, va_cpy v0_seas z_seas 0 0 7)
set_option maxHeartbeats 4000000 in
set_option maxRecDepth 100000 in
theorem kX3_becomeLike (l : Launch) (D : va_G) (cI cJ : ClassId) (sz g : Nat) (a_z a_z_cells a_z_kinds a_z_figures a_z_longings a_z_seas a_v0 a_v0_cells a_v0_kinds a_v0_figures a_v0_longings a_v0_seas : Nat) (z_places : Int32) (z_hands : Int32) (z_aboard : Int32) (z_ship : Int32) (z_day : Int32) (z_rows : Int32) (z_columns : Int32) (z_cells : Nat → Int32) (z_kinds : Nat → Int32) (z_figures : Nat → Int32) (z_longings : Nat → Int32) (z_seas : Nat → Int32) (v0_places : Int32) (v0_hands : Int32) (v0_aboard : Int32) (v0_ship : Int32) (v0_day : Int32) (v0_rows : Int32) (v0_columns : Int32) (v0_cells : Nat → Int32) (v0_kinds : Nat → Int32) (v0_figures : Nat → Int32) (v0_longings : Nat → Int32) (v0_seas : Nat → Int32) (n_z_places : Int32) (n_z_hands : Int32) (n_z_aboard : Int32) (n_z_ship : Int32) (n_z_day : Int32) (n_z_cells : Nat → Int32) (n_z_kinds : Nat → Int32) (n_z_figures : Nat → Int32) (n_z_longings : Nat → Int32) (n_z_seas : Nat → Int32) (hf : fX3_becomeLike g z_cells z_kinds z_figures z_longings z_seas v0_places v0_hands v0_aboard v0_ship v0_day v0_cells v0_kinds v0_figures v0_longings v0_seas = some (n_z_places, n_z_hands, n_z_aboard, n_z_ship, n_z_day, n_z_cells, n_z_kinds, n_z_figures, n_z_longings, n_z_seas)) : Met l yX3_becomeLike wsX3_becomeLike rmX3_becomeLike (va_Pc [.ref a_z, .ref a_v0] (sPc D (tyL cI cJ) [(a_z, .inr (3, [.ref a_z_cells, .int z_places, .ref a_z_kinds, .ref a_z_figures, .ref a_z_longings, .ref a_z_seas, .int z_hands, .int z_aboard, .int z_ship, .int z_day, .int z_rows, .int z_columns])), (a_z_cells, .inl (cI, 6, .inl z_cells)), (a_z_kinds, .inl (cI, 7, .inl z_kinds)), (a_z_figures, .inl (cI, 7, .inl z_figures)), (a_z_longings, .inl (cI, 7, .inl z_longings)), (a_z_seas, .inl (cI, 7, .inl z_seas)), (a_v0, .inr (3, [.ref a_v0_cells, .int v0_places, .ref a_v0_kinds, .ref a_v0_figures, .ref a_v0_longings, .ref a_v0_seas, .int v0_hands, .int v0_aboard, .int v0_ship, .int v0_day, .int v0_rows, .int v0_columns])), (a_v0_cells, .inl (cI, 6, .inl v0_cells)), (a_v0_kinds, .inl (cI, 7, .inl v0_kinds)), (a_v0_figures, .inl (cI, 7, .inl v0_figures)), (a_v0_longings, .inl (cI, 7, .inl v0_longings)), (a_v0_seas, .inl (cI, 7, .inl v0_seas))] sz)) (qV D (tyL cI cJ) [(a_z, .inr (3, [.ref a_z_cells, .int z_places, .ref a_z_kinds, .ref a_z_figures, .ref a_z_longings, .ref a_z_seas, .int z_hands, .int z_aboard, .int z_ship, .int z_day, .int z_rows, .int z_columns])), (a_z_cells, .inl (cI, 6, .inl z_cells)), (a_z_kinds, .inl (cI, 7, .inl z_kinds)), (a_z_figures, .inl (cI, 7, .inl z_figures)), (a_z_longings, .inl (cI, 7, .inl z_longings)), (a_z_seas, .inl (cI, 7, .inl z_seas)), (a_v0, .inr (3, [.ref a_v0_cells, .int v0_places, .ref a_v0_kinds, .ref a_v0_figures, .ref a_v0_longings, .ref a_v0_seas, .int v0_hands, .int v0_aboard, .int v0_ship, .int v0_day, .int v0_rows, .int v0_columns])), (a_v0_cells, .inl (cI, 6, .inl v0_cells)), (a_v0_kinds, .inl (cI, 7, .inl v0_kinds)), (a_v0_figures, .inl (cI, 7, .inl v0_figures)), (a_v0_longings, .inl (cI, 7, .inl v0_longings)), (a_v0_seas, .inl (cI, 7, .inl v0_seas))] sz [(a_z, .inr (3, [.ref a_z_cells, .int n_z_places, .ref a_z_kinds, .ref a_z_figures, .ref a_z_longings, .ref a_z_seas, .int n_z_hands, .int n_z_aboard, .int n_z_ship, .int n_z_day, .int z_rows, .int z_columns])), (a_z_cells, .inl (cI, 6, .inl n_z_cells)), (a_z_kinds, .inl (cI, 7, .inl n_z_kinds)), (a_z_figures, .inl (cI, 7, .inl n_z_figures)), (a_z_longings, .inl (cI, 7, .inl n_z_longings)), (a_z_seas, .inl (cI, 7, .inl n_z_seas)), (a_v0, .inr (3, [.ref a_v0_cells, .int v0_places, .ref a_v0_kinds, .ref a_v0_figures, .ref a_v0_longings, .ref a_v0_seas, .int v0_hands, .int v0_aboard, .int v0_ship, .int v0_day, .int v0_rows, .int v0_columns])), (a_v0_cells, .inl (cI, 6, .inl v0_cells)), (a_v0_kinds, .inl (cI, 7, .inl v0_kinds)), (a_v0_figures, .inl (cI, 7, .inl v0_figures)), (a_v0_longings, .inl (cI, 7, .inl v0_longings)), (a_v0_seas, .inl (cI, 7, .inl v0_seas))]) 0 0 (va_A [(a_z, .inr (3, [.ref a_z_cells, .int z_places, .ref a_z_kinds, .ref a_z_figures, .ref a_z_longings, .ref a_z_seas, .int z_hands, .int z_aboard, .int z_ship, .int z_day, .int z_rows, .int z_columns])), (a_z_cells, .inl (cI, 6, .inl z_cells)), (a_z_kinds, .inl (cI, 7, .inl z_kinds)), (a_z_figures, .inl (cI, 7, .inl z_figures)), (a_z_longings, .inl (cI, 7, .inl z_longings)), (a_z_seas, .inl (cI, 7, .inl z_seas)), (a_v0, .inr (3, [.ref a_v0_cells, .int v0_places, .ref a_v0_kinds, .ref a_v0_figures, .ref a_v0_longings, .ref a_v0_seas, .int v0_hands, .int v0_aboard, .int v0_ship, .int v0_day, .int v0_rows, .int v0_columns])), (a_v0_cells, .inl (cI, 6, .inl v0_cells)), (a_v0_kinds, .inl (cI, 7, .inl v0_kinds)), (a_v0_figures, .inl (cI, 7, .inl v0_figures)), (a_v0_longings, .inl (cI, 7, .inl v0_longings)), (a_v0_seas, .inl (cI, 7, .inl v0_seas))] sz) := by
  refine st_v (cc := cX3_becomeLike) (maxL := 2) (by decide) rfl (Nat.le_of_ble_eq_true rfl) ?_
  intro p e s m args below meth c A Q F hret0 H locs hP hS ls hl
  have F : Cx p s m args c cX3_becomeLike 2 wsX3_becomeLike RX3 D (tyL cI cJ) A := F
  have hx := F.1.1
  have hb := F.1.2.1
  have hown := F.1.2.2.2.1
  have hts := F.1.2.2.2.2
  have iX3 : ∀ w ∈ wsX30, w ∈ wsX3_becomeLike := fun w h => (List.mem_cons_of_mem _ (List.mem_append_right _ h))
  have hret : ∀ (pc : Nat) (H : Heap) (locs : List Loc) (ls : Array Slot) (m_z_places : Int32) (m_z_hands : Int32) (m_z_aboard : Int32) (m_z_ship : Int32) (m_z_day : Int32) (m_z_cells : Nat → Int32) (m_z_kinds : Nat → Int32) (m_z_figures : Nat → Int32) (m_z_longings : Nat → Int32) (m_z_seas : Nat → Int32), some (m_z_places, m_z_hands, m_z_aboard, m_z_ship, m_z_day, m_z_cells, m_z_kinds, m_z_figures, m_z_longings, m_z_seas) = some (n_z_places, n_z_hands, n_z_aboard, n_z_ship, n_z_day, n_z_cells, n_z_kinds, n_z_figures, n_z_longings, n_z_seas) → decode cX3_becomeLike pc = .ok (.return_, 1) → WD D A [(a_z, .inr (3, [.ref a_z_cells, .int m_z_places, .ref a_z_kinds, .ref a_z_figures, .ref a_z_longings, .ref a_z_seas, .int m_z_hands, .int m_z_aboard, .int m_z_ship, .int m_z_day, .int z_rows, .int z_columns])), (a_z_cells, .inl (cI, 6, .inl m_z_cells)), (a_z_kinds, .inl (cI, 7, .inl m_z_kinds)), (a_z_figures, .inl (cI, 7, .inl m_z_figures)), (a_z_longings, .inl (cI, 7, .inl m_z_longings)), (a_z_seas, .inl (cI, 7, .inl m_z_seas)), (a_v0, .inr (3, [.ref a_v0_cells, .int v0_places, .ref a_v0_kinds, .ref a_v0_figures, .ref a_v0_longings, .ref a_v0_seas, .int v0_hands, .int v0_aboard, .int v0_ship, .int v0_day, .int v0_rows, .int v0_columns])), (a_v0_cells, .inl (cI, 6, .inl v0_cells)), (a_v0_kinds, .inl (cI, 7, .inl v0_kinds)), (a_v0_figures, .inl (cI, 7, .inl v0_figures)), (a_v0_longings, .inl (cI, 7, .inl v0_longings)), (a_v0_seas, .inl (cI, 7, .inl v0_seas))] H → va_S A s.heap H locs → W p l e rmX3_becomeLike s m args below meth c H locs 0 0 Q (F0 m pc ls []) := by
    intro pc H locs ls m_z_places m_z_hands m_z_aboard m_z_ship m_z_day m_z_cells m_z_kinds m_z_figures m_z_longings m_z_seas h hd hP hS
    cases h
    exact hret0 pc H locs ls hd hP hS
  have hl : lv_has ls 2 [(0, .ref a_z), (1, .ref a_v0)] := hl
  have h := hf
  unfold fX3_becomeLike at h
  refine lv_aload_n hx hb dX3_becomeLike_0 rfl (lv_at hl 0 rfl) ?_
  refine lv_aload_n hx hb dX3_becomeLike_1 rfl (lv_at hl 1 rfl) ?_
  refine gt_X3_27 F iX3 (List.mem_cons_of_mem _ (List.mem_append_left _ (List.mem_of_getElem? (i := 0) rfl))) hP 6 rfl dX3_becomeLike_2 ?_
  refine pt_X3_27 F iX3 (List.mem_cons_of_mem _ (List.mem_append_left _ (List.mem_of_getElem? (i := 0) rfl))) hP hS 0 rfl dX3_becomeLike_5 (fun H locs hP hS => ?_)
  have hP : WD D A [(a_z, .inr (3, [.ref a_z_cells, .int v0_places, .ref a_z_kinds, .ref a_z_figures, .ref a_z_longings, .ref a_z_seas, .int z_hands, .int z_aboard, .int z_ship, .int z_day, .int z_rows, .int z_columns])), (a_z_cells, .inl (cI, 6, .inl z_cells)), (a_z_kinds, .inl (cI, 7, .inl z_kinds)), (a_z_figures, .inl (cI, 7, .inl z_figures)), (a_z_longings, .inl (cI, 7, .inl z_longings)), (a_z_seas, .inl (cI, 7, .inl z_seas)), (a_v0, .inr (3, [.ref a_v0_cells, .int v0_places, .ref a_v0_kinds, .ref a_v0_figures, .ref a_v0_longings, .ref a_v0_seas, .int v0_hands, .int v0_aboard, .int v0_ship, .int v0_day, .int v0_rows, .int v0_columns])), (a_v0_cells, .inl (cI, 6, .inl v0_cells)), (a_v0_kinds, .inl (cI, 7, .inl v0_kinds)), (a_v0_figures, .inl (cI, 7, .inl v0_figures)), (a_v0_longings, .inl (cI, 7, .inl v0_longings)), (a_v0_seas, .inl (cI, 7, .inl v0_seas))] H := hP
  refine lv_aload_n hx hb dX3_becomeLike_8 rfl (lv_at hl 0 rfl) ?_
  refine lv_aload_n hx hb dX3_becomeLike_9 rfl (lv_at hl 1 rfl) ?_
  refine gt_X3_31 F iX3 (List.mem_cons_of_mem _ (List.mem_append_left _ (List.mem_of_getElem? (i := 1) rfl))) hP 6 rfl dX3_becomeLike_10 ?_
  refine pt_X3_31 F iX3 (List.mem_cons_of_mem _ (List.mem_append_left _ (List.mem_of_getElem? (i := 1) rfl))) hP hS 0 rfl dX3_becomeLike_13 (fun H locs hP hS => ?_)
  have hP : WD D A [(a_z, .inr (3, [.ref a_z_cells, .int v0_places, .ref a_z_kinds, .ref a_z_figures, .ref a_z_longings, .ref a_z_seas, .int v0_hands, .int z_aboard, .int z_ship, .int z_day, .int z_rows, .int z_columns])), (a_z_cells, .inl (cI, 6, .inl z_cells)), (a_z_kinds, .inl (cI, 7, .inl z_kinds)), (a_z_figures, .inl (cI, 7, .inl z_figures)), (a_z_longings, .inl (cI, 7, .inl z_longings)), (a_z_seas, .inl (cI, 7, .inl z_seas)), (a_v0, .inr (3, [.ref a_v0_cells, .int v0_places, .ref a_v0_kinds, .ref a_v0_figures, .ref a_v0_longings, .ref a_v0_seas, .int v0_hands, .int v0_aboard, .int v0_ship, .int v0_day, .int v0_rows, .int v0_columns])), (a_v0_cells, .inl (cI, 6, .inl v0_cells)), (a_v0_kinds, .inl (cI, 7, .inl v0_kinds)), (a_v0_figures, .inl (cI, 7, .inl v0_figures)), (a_v0_longings, .inl (cI, 7, .inl v0_longings)), (a_v0_seas, .inl (cI, 7, .inl v0_seas))] H := hP
  refine lv_aload_n hx hb dX3_becomeLike_16 rfl (lv_at hl 0 rfl) ?_
  refine lv_aload_n hx hb dX3_becomeLike_17 rfl (lv_at hl 1 rfl) ?_
  refine gt_X3_34 F iX3 (List.mem_cons_of_mem _ (List.mem_append_left _ (List.mem_of_getElem? (i := 2) rfl))) hP 6 rfl dX3_becomeLike_18 ?_
  refine pt_X3_34 F iX3 (List.mem_cons_of_mem _ (List.mem_append_left _ (List.mem_of_getElem? (i := 2) rfl))) hP hS 0 rfl dX3_becomeLike_21 (fun H locs hP hS => ?_)
  have hP : WD D A [(a_z, .inr (3, [.ref a_z_cells, .int v0_places, .ref a_z_kinds, .ref a_z_figures, .ref a_z_longings, .ref a_z_seas, .int v0_hands, .int v0_aboard, .int z_ship, .int z_day, .int z_rows, .int z_columns])), (a_z_cells, .inl (cI, 6, .inl z_cells)), (a_z_kinds, .inl (cI, 7, .inl z_kinds)), (a_z_figures, .inl (cI, 7, .inl z_figures)), (a_z_longings, .inl (cI, 7, .inl z_longings)), (a_z_seas, .inl (cI, 7, .inl z_seas)), (a_v0, .inr (3, [.ref a_v0_cells, .int v0_places, .ref a_v0_kinds, .ref a_v0_figures, .ref a_v0_longings, .ref a_v0_seas, .int v0_hands, .int v0_aboard, .int v0_ship, .int v0_day, .int v0_rows, .int v0_columns])), (a_v0_cells, .inl (cI, 6, .inl v0_cells)), (a_v0_kinds, .inl (cI, 7, .inl v0_kinds)), (a_v0_figures, .inl (cI, 7, .inl v0_figures)), (a_v0_longings, .inl (cI, 7, .inl v0_longings)), (a_v0_seas, .inl (cI, 7, .inl v0_seas))] H := hP
  refine lv_aload_n hx hb dX3_becomeLike_24 rfl (lv_at hl 0 rfl) ?_
  refine lv_aload_n hx hb dX3_becomeLike_25 rfl (lv_at hl 1 rfl) ?_
  refine gt_X3_37 F iX3 (List.mem_cons_of_mem _ (List.mem_append_left _ (List.mem_of_getElem? (i := 3) rfl))) hP 6 rfl dX3_becomeLike_26 ?_
  refine pt_X3_37 F iX3 (List.mem_cons_of_mem _ (List.mem_append_left _ (List.mem_of_getElem? (i := 3) rfl))) hP hS 0 rfl dX3_becomeLike_29 (fun H locs hP hS => ?_)
  have hP : WD D A [(a_z, .inr (3, [.ref a_z_cells, .int v0_places, .ref a_z_kinds, .ref a_z_figures, .ref a_z_longings, .ref a_z_seas, .int v0_hands, .int v0_aboard, .int v0_ship, .int z_day, .int z_rows, .int z_columns])), (a_z_cells, .inl (cI, 6, .inl z_cells)), (a_z_kinds, .inl (cI, 7, .inl z_kinds)), (a_z_figures, .inl (cI, 7, .inl z_figures)), (a_z_longings, .inl (cI, 7, .inl z_longings)), (a_z_seas, .inl (cI, 7, .inl z_seas)), (a_v0, .inr (3, [.ref a_v0_cells, .int v0_places, .ref a_v0_kinds, .ref a_v0_figures, .ref a_v0_longings, .ref a_v0_seas, .int v0_hands, .int v0_aboard, .int v0_ship, .int v0_day, .int v0_rows, .int v0_columns])), (a_v0_cells, .inl (cI, 6, .inl v0_cells)), (a_v0_kinds, .inl (cI, 7, .inl v0_kinds)), (a_v0_figures, .inl (cI, 7, .inl v0_figures)), (a_v0_longings, .inl (cI, 7, .inl v0_longings)), (a_v0_seas, .inl (cI, 7, .inl v0_seas))] H := hP
  refine lv_aload_n hx hb dX3_becomeLike_32 rfl (lv_at hl 0 rfl) ?_
  refine lv_aload_n hx hb dX3_becomeLike_33 rfl (lv_at hl 1 rfl) ?_
  refine gt_X3_40 F iX3 (List.mem_cons_of_mem _ (List.mem_append_left _ (List.mem_of_getElem? (i := 4) rfl))) hP 6 rfl dX3_becomeLike_34 ?_
  refine pt_X3_40 F iX3 (List.mem_cons_of_mem _ (List.mem_append_left _ (List.mem_of_getElem? (i := 4) rfl))) hP hS 0 rfl dX3_becomeLike_37 (fun H locs hP hS => ?_)
  have hP : WD D A [(a_z, .inr (3, [.ref a_z_cells, .int v0_places, .ref a_z_kinds, .ref a_z_figures, .ref a_z_longings, .ref a_z_seas, .int v0_hands, .int v0_aboard, .int v0_ship, .int v0_day, .int z_rows, .int z_columns])), (a_z_cells, .inl (cI, 6, .inl z_cells)), (a_z_kinds, .inl (cI, 7, .inl z_kinds)), (a_z_figures, .inl (cI, 7, .inl z_figures)), (a_z_longings, .inl (cI, 7, .inl z_longings)), (a_z_seas, .inl (cI, 7, .inl z_seas)), (a_v0, .inr (3, [.ref a_v0_cells, .int v0_places, .ref a_v0_kinds, .ref a_v0_figures, .ref a_v0_longings, .ref a_v0_seas, .int v0_hands, .int v0_aboard, .int v0_ship, .int v0_day, .int v0_rows, .int v0_columns])), (a_v0_cells, .inl (cI, 6, .inl v0_cells)), (a_v0_kinds, .inl (cI, 7, .inl v0_kinds)), (a_v0_figures, .inl (cI, 7, .inl v0_figures)), (a_v0_longings, .inl (cI, 7, .inl v0_longings)), (a_v0_seas, .inl (cI, 7, .inl v0_seas))] H := hP
  refine lv_aload_n hx hb dX3_becomeLike_40 rfl (lv_at hl 1 rfl) ?_
  refine gt_X3_9 F iX3 (List.mem_cons_of_mem _ (List.mem_append_left _ (List.mem_of_getElem? (i := 5) rfl))) hP 6 rfl dX3_becomeLike_41 ?_
  refine lv_iconst (v := 0) hx hb dX3_becomeLike_44 (by decide) ?_
  refine lv_aload_n hx hb dX3_becomeLike_45 rfl (lv_at hl 0 rfl) ?_
  refine gt_X3_9 F iX3 (List.mem_cons_of_mem _ (List.mem_append_left _ (List.mem_of_getElem? (i := 5) rfl))) hP 0 rfl dX3_becomeLike_46 ?_
  refine lv_iconst (v := 0) hx hb dX3_becomeLike_49 (by decide) ?_
  refine lv_bipush (v := 6) hx hb dX3_becomeLike_50 (by decide) ?_
  refine r_cpi F hP hS hl.1 (List.mem_cons_of_mem _ (List.mem_append_left _ (List.mem_of_getElem? (i := 6) rfl))) (List.mem_cons_of_mem _ (List.mem_append_left _ (List.mem_of_getElem? (i := 7) rfl))) (List.mem_cons_of_mem _ (List.mem_append_left _ (List.mem_of_getElem? (i := 8) rfl))) (List.mem_cons_of_mem _ (List.mem_append_left _ (List.mem_of_getElem? (i := 9) rfl))) 7 1 rfl rfl (by decide) rfl (Nat.le_of_ble_eq_true rfl) (Nat.le_of_ble_eq_true rfl) dX3_becomeLike_52 (fun H locs hP hS => ?_)
  have hP : WD D A [(a_z, .inr (3, [.ref a_z_cells, .int v0_places, .ref a_z_kinds, .ref a_z_figures, .ref a_z_longings, .ref a_z_seas, .int v0_hands, .int v0_aboard, .int v0_ship, .int v0_day, .int z_rows, .int z_columns])), (a_z_cells, .inl (cI, 6, .inl (va_cpy v0_cells z_cells 0 0 6))), (a_z_kinds, .inl (cI, 7, .inl z_kinds)), (a_z_figures, .inl (cI, 7, .inl z_figures)), (a_z_longings, .inl (cI, 7, .inl z_longings)), (a_z_seas, .inl (cI, 7, .inl z_seas)), (a_v0, .inr (3, [.ref a_v0_cells, .int v0_places, .ref a_v0_kinds, .ref a_v0_figures, .ref a_v0_longings, .ref a_v0_seas, .int v0_hands, .int v0_aboard, .int v0_ship, .int v0_day, .int v0_rows, .int v0_columns])), (a_v0_cells, .inl (cI, 6, .inl v0_cells)), (a_v0_kinds, .inl (cI, 7, .inl v0_kinds)), (a_v0_figures, .inl (cI, 7, .inl v0_figures)), (a_v0_longings, .inl (cI, 7, .inl v0_longings)), (a_v0_seas, .inl (cI, 7, .inl v0_seas))] H := hP
  refine lv_aload_n hx hb dX3_becomeLike_55 rfl (lv_at hl 1 rfl) ?_
  refine gt_X3_15 F iX3 (List.mem_cons_of_mem _ (List.mem_append_left _ (List.mem_of_getElem? (i := 10) rfl))) hP 6 rfl dX3_becomeLike_56 ?_
  refine lv_iconst (v := 0) hx hb dX3_becomeLike_59 (by decide) ?_
  refine lv_aload_n hx hb dX3_becomeLike_60 rfl (lv_at hl 0 rfl) ?_
  refine gt_X3_15 F iX3 (List.mem_cons_of_mem _ (List.mem_append_left _ (List.mem_of_getElem? (i := 10) rfl))) hP 0 rfl dX3_becomeLike_61 ?_
  refine lv_iconst (v := 0) hx hb dX3_becomeLike_64 (by decide) ?_
  refine lv_bipush (v := 7) hx hb dX3_becomeLike_65 (by decide) ?_
  refine r_cpi F hP hS hl.1 (List.mem_cons_of_mem _ (List.mem_append_left _ (List.mem_of_getElem? (i := 6) rfl))) (List.mem_cons_of_mem _ (List.mem_append_left _ (List.mem_of_getElem? (i := 7) rfl))) (List.mem_cons_of_mem _ (List.mem_append_left _ (List.mem_of_getElem? (i := 8) rfl))) (List.mem_cons_of_mem _ (List.mem_append_left _ (List.mem_of_getElem? (i := 9) rfl))) 8 2 rfl rfl (by decide) rfl (Nat.le_of_ble_eq_true rfl) (Nat.le_of_ble_eq_true rfl) dX3_becomeLike_67 (fun H locs hP hS => ?_)
  have hP : WD D A [(a_z, .inr (3, [.ref a_z_cells, .int v0_places, .ref a_z_kinds, .ref a_z_figures, .ref a_z_longings, .ref a_z_seas, .int v0_hands, .int v0_aboard, .int v0_ship, .int v0_day, .int z_rows, .int z_columns])), (a_z_cells, .inl (cI, 6, .inl (va_cpy v0_cells z_cells 0 0 6))), (a_z_kinds, .inl (cI, 7, .inl (va_cpy v0_kinds z_kinds 0 0 7))), (a_z_figures, .inl (cI, 7, .inl z_figures)), (a_z_longings, .inl (cI, 7, .inl z_longings)), (a_z_seas, .inl (cI, 7, .inl z_seas)), (a_v0, .inr (3, [.ref a_v0_cells, .int v0_places, .ref a_v0_kinds, .ref a_v0_figures, .ref a_v0_longings, .ref a_v0_seas, .int v0_hands, .int v0_aboard, .int v0_ship, .int v0_day, .int v0_rows, .int v0_columns])), (a_v0_cells, .inl (cI, 6, .inl v0_cells)), (a_v0_kinds, .inl (cI, 7, .inl v0_kinds)), (a_v0_figures, .inl (cI, 7, .inl v0_figures)), (a_v0_longings, .inl (cI, 7, .inl v0_longings)), (a_v0_seas, .inl (cI, 7, .inl v0_seas))] H := hP
  refine lv_aload_n hx hb dX3_becomeLike_70 rfl (lv_at hl 1 rfl) ?_
  refine gt_X3_18 F iX3 (List.mem_cons_of_mem _ (List.mem_append_left _ (List.mem_of_getElem? (i := 11) rfl))) hP 6 rfl dX3_becomeLike_71 ?_
  refine lv_iconst (v := 0) hx hb dX3_becomeLike_74 (by decide) ?_
  refine lv_aload_n hx hb dX3_becomeLike_75 rfl (lv_at hl 0 rfl) ?_
  refine gt_X3_18 F iX3 (List.mem_cons_of_mem _ (List.mem_append_left _ (List.mem_of_getElem? (i := 11) rfl))) hP 0 rfl dX3_becomeLike_76 ?_
  refine lv_iconst (v := 0) hx hb dX3_becomeLike_79 (by decide) ?_
  refine lv_bipush (v := 7) hx hb dX3_becomeLike_80 (by decide) ?_
  refine r_cpi F hP hS hl.1 (List.mem_cons_of_mem _ (List.mem_append_left _ (List.mem_of_getElem? (i := 6) rfl))) (List.mem_cons_of_mem _ (List.mem_append_left _ (List.mem_of_getElem? (i := 7) rfl))) (List.mem_cons_of_mem _ (List.mem_append_left _ (List.mem_of_getElem? (i := 8) rfl))) (List.mem_cons_of_mem _ (List.mem_append_left _ (List.mem_of_getElem? (i := 9) rfl))) 9 3 rfl rfl (by decide) rfl (Nat.le_of_ble_eq_true rfl) (Nat.le_of_ble_eq_true rfl) dX3_becomeLike_82 (fun H locs hP hS => ?_)
  have hP : WD D A [(a_z, .inr (3, [.ref a_z_cells, .int v0_places, .ref a_z_kinds, .ref a_z_figures, .ref a_z_longings, .ref a_z_seas, .int v0_hands, .int v0_aboard, .int v0_ship, .int v0_day, .int z_rows, .int z_columns])), (a_z_cells, .inl (cI, 6, .inl (va_cpy v0_cells z_cells 0 0 6))), (a_z_kinds, .inl (cI, 7, .inl (va_cpy v0_kinds z_kinds 0 0 7))), (a_z_figures, .inl (cI, 7, .inl (va_cpy v0_figures z_figures 0 0 7))), (a_z_longings, .inl (cI, 7, .inl z_longings)), (a_z_seas, .inl (cI, 7, .inl z_seas)), (a_v0, .inr (3, [.ref a_v0_cells, .int v0_places, .ref a_v0_kinds, .ref a_v0_figures, .ref a_v0_longings, .ref a_v0_seas, .int v0_hands, .int v0_aboard, .int v0_ship, .int v0_day, .int v0_rows, .int v0_columns])), (a_v0_cells, .inl (cI, 6, .inl v0_cells)), (a_v0_kinds, .inl (cI, 7, .inl v0_kinds)), (a_v0_figures, .inl (cI, 7, .inl v0_figures)), (a_v0_longings, .inl (cI, 7, .inl v0_longings)), (a_v0_seas, .inl (cI, 7, .inl v0_seas))] H := hP
  refine lv_aload_n hx hb dX3_becomeLike_85 rfl (lv_at hl 1 rfl) ?_
  refine gt_X3_21 F iX3 (List.mem_cons_of_mem _ (List.mem_append_left _ (List.mem_of_getElem? (i := 12) rfl))) hP 6 rfl dX3_becomeLike_86 ?_
  refine lv_iconst (v := 0) hx hb dX3_becomeLike_89 (by decide) ?_
  refine lv_aload_n hx hb dX3_becomeLike_90 rfl (lv_at hl 0 rfl) ?_
  refine gt_X3_21 F iX3 (List.mem_cons_of_mem _ (List.mem_append_left _ (List.mem_of_getElem? (i := 12) rfl))) hP 0 rfl dX3_becomeLike_91 ?_
  refine lv_iconst (v := 0) hx hb dX3_becomeLike_94 (by decide) ?_
  refine lv_bipush (v := 7) hx hb dX3_becomeLike_95 (by decide) ?_
  refine r_cpi F hP hS hl.1 (List.mem_cons_of_mem _ (List.mem_append_left _ (List.mem_of_getElem? (i := 6) rfl))) (List.mem_cons_of_mem _ (List.mem_append_left _ (List.mem_of_getElem? (i := 7) rfl))) (List.mem_cons_of_mem _ (List.mem_append_left _ (List.mem_of_getElem? (i := 8) rfl))) (List.mem_cons_of_mem _ (List.mem_append_left _ (List.mem_of_getElem? (i := 9) rfl))) 10 4 rfl rfl (by decide) rfl (Nat.le_of_ble_eq_true rfl) (Nat.le_of_ble_eq_true rfl) dX3_becomeLike_97 (fun H locs hP hS => ?_)
  have hP : WD D A [(a_z, .inr (3, [.ref a_z_cells, .int v0_places, .ref a_z_kinds, .ref a_z_figures, .ref a_z_longings, .ref a_z_seas, .int v0_hands, .int v0_aboard, .int v0_ship, .int v0_day, .int z_rows, .int z_columns])), (a_z_cells, .inl (cI, 6, .inl (va_cpy v0_cells z_cells 0 0 6))), (a_z_kinds, .inl (cI, 7, .inl (va_cpy v0_kinds z_kinds 0 0 7))), (a_z_figures, .inl (cI, 7, .inl (va_cpy v0_figures z_figures 0 0 7))), (a_z_longings, .inl (cI, 7, .inl (va_cpy v0_longings z_longings 0 0 7))), (a_z_seas, .inl (cI, 7, .inl z_seas)), (a_v0, .inr (3, [.ref a_v0_cells, .int v0_places, .ref a_v0_kinds, .ref a_v0_figures, .ref a_v0_longings, .ref a_v0_seas, .int v0_hands, .int v0_aboard, .int v0_ship, .int v0_day, .int v0_rows, .int v0_columns])), (a_v0_cells, .inl (cI, 6, .inl v0_cells)), (a_v0_kinds, .inl (cI, 7, .inl v0_kinds)), (a_v0_figures, .inl (cI, 7, .inl v0_figures)), (a_v0_longings, .inl (cI, 7, .inl v0_longings)), (a_v0_seas, .inl (cI, 7, .inl v0_seas))] H := hP
  refine lv_aload_n hx hb dX3_becomeLike_100 rfl (lv_at hl 1 rfl) ?_
  refine gt_X3_24 F iX3 (List.mem_cons_of_mem _ (List.mem_append_left _ (List.mem_of_getElem? (i := 13) rfl))) hP 6 rfl dX3_becomeLike_101 ?_
  refine lv_iconst (v := 0) hx hb dX3_becomeLike_104 (by decide) ?_
  refine lv_aload_n hx hb dX3_becomeLike_105 rfl (lv_at hl 0 rfl) ?_
  refine gt_X3_24 F iX3 (List.mem_cons_of_mem _ (List.mem_append_left _ (List.mem_of_getElem? (i := 13) rfl))) hP 0 rfl dX3_becomeLike_106 ?_
  refine lv_iconst (v := 0) hx hb dX3_becomeLike_109 (by decide) ?_
  refine lv_bipush (v := 7) hx hb dX3_becomeLike_110 (by decide) ?_
  refine r_cpi F hP hS hl.1 (List.mem_cons_of_mem _ (List.mem_append_left _ (List.mem_of_getElem? (i := 6) rfl))) (List.mem_cons_of_mem _ (List.mem_append_left _ (List.mem_of_getElem? (i := 7) rfl))) (List.mem_cons_of_mem _ (List.mem_append_left _ (List.mem_of_getElem? (i := 8) rfl))) (List.mem_cons_of_mem _ (List.mem_append_left _ (List.mem_of_getElem? (i := 9) rfl))) 11 5 rfl rfl (by decide) rfl (Nat.le_of_ble_eq_true rfl) (Nat.le_of_ble_eq_true rfl) dX3_becomeLike_112 (fun H locs hP hS => ?_)
  have hP : WD D A [(a_z, .inr (3, [.ref a_z_cells, .int v0_places, .ref a_z_kinds, .ref a_z_figures, .ref a_z_longings, .ref a_z_seas, .int v0_hands, .int v0_aboard, .int v0_ship, .int v0_day, .int z_rows, .int z_columns])), (a_z_cells, .inl (cI, 6, .inl (va_cpy v0_cells z_cells 0 0 6))), (a_z_kinds, .inl (cI, 7, .inl (va_cpy v0_kinds z_kinds 0 0 7))), (a_z_figures, .inl (cI, 7, .inl (va_cpy v0_figures z_figures 0 0 7))), (a_z_longings, .inl (cI, 7, .inl (va_cpy v0_longings z_longings 0 0 7))), (a_z_seas, .inl (cI, 7, .inl (va_cpy v0_seas z_seas 0 0 7))), (a_v0, .inr (3, [.ref a_v0_cells, .int v0_places, .ref a_v0_kinds, .ref a_v0_figures, .ref a_v0_longings, .ref a_v0_seas, .int v0_hands, .int v0_aboard, .int v0_ship, .int v0_day, .int v0_rows, .int v0_columns])), (a_v0_cells, .inl (cI, 6, .inl v0_cells)), (a_v0_kinds, .inl (cI, 7, .inl v0_kinds)), (a_v0_figures, .inl (cI, 7, .inl v0_figures)), (a_v0_longings, .inl (cI, 7, .inl v0_longings)), (a_v0_seas, .inl (cI, 7, .inl v0_seas))] H := hP
  exact hret 115 H locs ls v0_places v0_hands v0_aboard v0_ship v0_day (va_cpy v0_cells z_cells 0 0 6) (va_cpy v0_kinds z_kinds 0 0 7) (va_cpy v0_figures z_figures 0 0 7) (va_cpy v0_longings z_longings 0 0 7) (va_cpy v0_seas z_seas 0 0 7) h dX3_becomeLike_115 hP hS
theorem eSX3_addPlace : yX3_addPlace.cls ≠ "java/lang/invoke/MethodHandle" ∧ yX3_addPlace.cls ≠ "java/lang/invoke/VarHandle" ∧ (parseMethodDescriptor yX3_addPlace.desc).map (fun d => d.parameters.length) = some 1 := by decide +kernel
theorem eVX3_addPlace : yX3_addPlace.cls = RX3 ∧ yX3_addPlace.cls ≠ "java/lang/invoke/MethodHandle" ∧ yX3_addPlace.cls ≠ "java/lang/invoke/VarHandle" ∧ (parseMethodDescriptor yX3_addPlace.desc).map (fun d => d.parameters.length) = some 1 := ⟨rfl, eSX3_addPlace⟩
abbrev rmX3_addPlace : Room := { frames := 0, cells := 0, slots := 0, locals := 0 }
def fX3_addPlace (g : Nat) (p0 : Int32) (z_places : Int32) (z_cells : Nat → Int32) : Option (Int32 × Int32 × (Nat → Int32)) := if 6 ≤ z_places then (some (0, z_places, z_cells)) else (if p0 < 0 then (some (0, z_places, z_cells)) else (if p0 < 64 then (gd (inB z_places 6) (some (1, z_places + 1, upd z_cells z_places.toNatClampNeg p0))) else (some (0, z_places, z_cells))))
set_option maxHeartbeats 4000000 in
set_option maxRecDepth 100000 in
theorem kX3_addPlace (l : Launch) (D : va_G) (cI cJ : ClassId) (sz g : Nat) (a_z a_z_cells a_z_kinds a_z_figures a_z_longings a_z_seas : Nat) (z_places : Int32) (z_hands : Int32) (z_aboard : Int32) (z_ship : Int32) (z_day : Int32) (z_rows : Int32) (z_columns : Int32) (z_cells : Nat → Int32) (p0 : Int32) (r : Int32) (n_z_places : Int32) (n_z_cells : Nat → Int32) (hf : fX3_addPlace g p0 z_places z_cells = some (r, n_z_places, n_z_cells)) : Met l yX3_addPlace wsX3_addPlace rmX3_addPlace (va_Pc [.ref a_z, .int p0] (sPc D (tyL cI cJ) [(a_z, .inr (3, [.ref a_z_cells, .int z_places, .ref a_z_kinds, .ref a_z_figures, .ref a_z_longings, .ref a_z_seas, .int z_hands, .int z_aboard, .int z_ship, .int z_day, .int z_rows, .int z_columns])), (a_z_cells, .inl (cI, 6, .inl z_cells))] sz)) (qI D (tyL cI cJ) [(a_z, .inr (3, [.ref a_z_cells, .int z_places, .ref a_z_kinds, .ref a_z_figures, .ref a_z_longings, .ref a_z_seas, .int z_hands, .int z_aboard, .int z_ship, .int z_day, .int z_rows, .int z_columns])), (a_z_cells, .inl (cI, 6, .inl z_cells))] sz [(a_z, .inr (3, [.ref a_z_cells, .int n_z_places, .ref a_z_kinds, .ref a_z_figures, .ref a_z_longings, .ref a_z_seas, .int z_hands, .int z_aboard, .int z_ship, .int z_day, .int z_rows, .int z_columns])), (a_z_cells, .inl (cI, 6, .inl n_z_cells))] r) 0 0 (va_A [(a_z, .inr (3, [.ref a_z_cells, .int z_places, .ref a_z_kinds, .ref a_z_figures, .ref a_z_longings, .ref a_z_seas, .int z_hands, .int z_aboard, .int z_ship, .int z_day, .int z_rows, .int z_columns])), (a_z_cells, .inl (cI, 6, .inl z_cells))] sz) := by
  refine st_i (cc := cX3_addPlace) (maxL := 2) (by decide) rfl (Nat.le_of_ble_eq_true rfl) ?_
  intro p e s m args below meth c A Q F hret0 H locs hP hS ls hl
  have F : Cx p s m args c cX3_addPlace 2 wsX3_addPlace RX3 D (tyL cI cJ) A := F
  have hx := F.1.1
  have hb := F.1.2.1
  have hown := F.1.2.2.2.1
  have hts := F.1.2.2.2.2
  have iX3 : ∀ w ∈ wsX30, w ∈ wsX3_addPlace := fun w h => (List.mem_cons_of_mem _ (List.mem_append_right _ h))
  have hret : ∀ (pc : Nat) (H : Heap) (locs : List Loc) (ls : Array Slot) (r' : Int32) (m_z_places : Int32) (m_z_cells : Nat → Int32), some (r', m_z_places, m_z_cells) = some (r, n_z_places, n_z_cells) → narrow .boolean (.int r') = .int r' → decode cX3_addPlace pc = .ok (.ireturn, 1) → WD D A [(a_z, .inr (3, [.ref a_z_cells, .int m_z_places, .ref a_z_kinds, .ref a_z_figures, .ref a_z_longings, .ref a_z_seas, .int z_hands, .int z_aboard, .int z_ship, .int z_day, .int z_rows, .int z_columns])), (a_z_cells, .inl (cI, 6, .inl m_z_cells))] H → va_S A s.heap H locs → W p l e rmX3_addPlace s m args below meth c H locs 0 0 Q (F0 m pc ls [.int r']) := by
    intro pc H locs ls r' m_z_places m_z_cells h hn hd hP hS
    cases h
    exact hret0 pc H locs ls hn hd hP hS
  have hl : lv_has ls 2 [(0, .ref a_z), (1, .int p0)] := hl
  have h := hf
  unfold fX3_addPlace at h
  refine lv_aload_n hx hb dX3_addPlace_0 rfl (lv_at hl 0 rfl) ?_
  refine gt_X3_27 F iX3 (List.mem_cons_of_mem _ (List.mem_append_left _ (List.mem_of_getElem? (i := 0) rfl))) hP 0 rfl dX3_addPlace_1 ?_
  refine lv_bipush (v := 6) hx hb dX3_addPlace_4 (by decide) ?_
  refine lv_icmp_ge (tgt := 19) hx hb dX3_addPlace_6 (by decide) (fun hc5 => ?_) (fun hc5 => ?_)
  · have h := it_p hc5 h
    refine lv_iconst (v := 0) hx hb dX3_addPlace_19 (by decide) ?_
    exact hret 20 H locs ls 0 z_places z_cells h rfl dX3_addPlace_20 hP hS
  · have h := it_n hc5 h
    refine lv_iload_n hx hb dX3_addPlace_9 rfl (lv_at hl 1 rfl) ?_
    refine lv_if_lt (tgt := 19) hx hb dX3_addPlace_10 (by decide) (fun hc6 => ?_) (fun hc6 => ?_)
    · have h := it_p hc6 h
      refine lv_iconst (v := 0) hx hb dX3_addPlace_19 (by decide) ?_
      exact hret 20 H locs ls 0 z_places z_cells h rfl dX3_addPlace_20 hP hS
    · have h := it_n hc6 h
      refine lv_iload_n hx hb dX3_addPlace_13 rfl (lv_at hl 1 rfl) ?_
      refine lv_bipush (v := 64) hx hb dX3_addPlace_14 (by decide) ?_
      refine lv_icmp_lt (tgt := 21) hx hb dX3_addPlace_16 (by decide) (fun hc7 => ?_) (fun hc7 => ?_)
      · have h := it_p hc7 h
        refine lv_aload_n hx hb dX3_addPlace_21 rfl (lv_at hl 0 rfl) ?_
        refine gt_X3_9 F iX3 (List.mem_cons_of_mem _ (List.mem_append_left _ (List.mem_of_getElem? (i := 1) rfl))) hP 0 rfl dX3_addPlace_22 ?_
        refine lv_aload_n hx hb dX3_addPlace_25 rfl (lv_at hl 0 rfl) ?_
        refine gt_X3_27 F iX3 (List.mem_cons_of_mem _ (List.mem_append_left _ (List.mem_of_getElem? (i := 0) rfl))) hP 0 rfl dX3_addPlace_26 ?_
        refine lv_iload_n hx hb dX3_addPlace_29 rfl (lv_at hl 1 rfl) ?_
        obtain ⟨hg8, h⟩ := gd_e h
        refine r_is F hP hS 1 rfl rfl hg8 dX3_addPlace_30 (fun H locs hP hS => ?_)
        have hP : WD D A [(a_z, .inr (3, [.ref a_z_cells, .int z_places, .ref a_z_kinds, .ref a_z_figures, .ref a_z_longings, .ref a_z_seas, .int z_hands, .int z_aboard, .int z_ship, .int z_day, .int z_rows, .int z_columns])), (a_z_cells, .inl (cI, 6, .inl (upd z_cells z_places.toNatClampNeg p0)))] H := hP
        refine lv_aload_n hx hb dX3_addPlace_31 rfl (lv_at hl 0 rfl) ?_
        refine lv_dup hx hb dX3_addPlace_32 rfl ?_
        refine gt_X3_27 F iX3 (List.mem_cons_of_mem _ (List.mem_append_left _ (List.mem_of_getElem? (i := 0) rfl))) hP 0 rfl dX3_addPlace_33 ?_
        refine lv_iconst (v := 1) hx hb dX3_addPlace_36 (by decide) ?_
        refine lv_iadd hx hb dX3_addPlace_37 ?_
        refine pt_X3_27 F iX3 (List.mem_cons_of_mem _ (List.mem_append_left _ (List.mem_of_getElem? (i := 0) rfl))) hP hS 0 rfl dX3_addPlace_38 (fun H locs hP hS => ?_)
        have hP : WD D A [(a_z, .inr (3, [.ref a_z_cells, .int (z_places + 1), .ref a_z_kinds, .ref a_z_figures, .ref a_z_longings, .ref a_z_seas, .int z_hands, .int z_aboard, .int z_ship, .int z_day, .int z_rows, .int z_columns])), (a_z_cells, .inl (cI, 6, .inl (upd z_cells z_places.toNatClampNeg p0)))] H := hP
        refine lv_iconst (v := 1) hx hb dX3_addPlace_41 (by decide) ?_
        exact hret 42 H locs ls 1 (z_places + 1) (upd z_cells z_places.toNatClampNeg p0) h rfl dX3_addPlace_42 hP hS
      · have h := it_n hc7 h
        refine lv_iconst (v := 0) hx hb dX3_addPlace_19 (by decide) ?_
        exact hret 20 H locs ls 0 z_places z_cells h rfl dX3_addPlace_20 hP hS
theorem eSX3_addHand : yX3_addHand.cls ≠ "java/lang/invoke/MethodHandle" ∧ yX3_addHand.cls ≠ "java/lang/invoke/VarHandle" ∧ (parseMethodDescriptor yX3_addHand.desc).map (fun d => d.parameters.length) = some 3 := by decide +kernel
theorem eVX3_addHand : yX3_addHand.cls = RX3 ∧ yX3_addHand.cls ≠ "java/lang/invoke/MethodHandle" ∧ yX3_addHand.cls ≠ "java/lang/invoke/VarHandle" ∧ (parseMethodDescriptor yX3_addHand.desc).map (fun d => d.parameters.length) = some 3 := ⟨rfl, eSX3_addHand⟩
abbrev rmX3_addHand : Room := { frames := 0, cells := 0, slots := 0, locals := 0 }
def fX3_addHand (g : Nat) (p0 : Int32) (p1 : Int32) (p2 : Int32) (z_places : Int32) (z_hands : Int32) (z_aboard : Int32) (z_kinds : Nat → Int32) (z_figures : Nat → Int32) (z_longings : Nat → Int32) (z_seas : Nat → Int32) : Option (Int32 × Int32 × Int32 × (Nat → Int32) × (Nat → Int32) × (Nat → Int32) × (Nat → Int32)) := if 7 ≤ z_hands then (some (0, z_hands, z_aboard, z_kinds, z_figures, z_longings, z_seas)) else (if p2 < 0 then (some (0, z_hands, z_aboard, z_kinds, z_figures, z_longings, z_seas)) else (if p2 < z_places then (gd (inB z_hands 7) (gd (inB z_hands 7) (gd (inB z_hands 7) (gd (inB z_hands 7) (some (1, z_hands + 1, z_aboard ||| (1 <<< (z_hands &&& 31)), upd z_kinds z_hands.toNatClampNeg p0, upd z_figures z_hands.toNatClampNeg p1, upd z_longings z_hands.toNatClampNeg p2, upd z_seas z_hands.toNatClampNeg 0)))))) else (some (0, z_hands, z_aboard, z_kinds, z_figures, z_longings, z_seas))))
set_option maxHeartbeats 4000000 in
set_option maxRecDepth 100000 in
theorem kX3_addHand (l : Launch) (D : va_G) (cI cJ : ClassId) (sz g : Nat) (a_z a_z_cells a_z_kinds a_z_figures a_z_longings a_z_seas : Nat) (z_places : Int32) (z_hands : Int32) (z_aboard : Int32) (z_ship : Int32) (z_day : Int32) (z_rows : Int32) (z_columns : Int32) (z_kinds : Nat → Int32) (z_figures : Nat → Int32) (z_longings : Nat → Int32) (z_seas : Nat → Int32) (p0 : Int32) (p1 : Int32) (p2 : Int32) (r : Int32) (n_z_hands : Int32) (n_z_aboard : Int32) (n_z_kinds : Nat → Int32) (n_z_figures : Nat → Int32) (n_z_longings : Nat → Int32) (n_z_seas : Nat → Int32) (hf : fX3_addHand g p0 p1 p2 z_places z_hands z_aboard z_kinds z_figures z_longings z_seas = some (r, n_z_hands, n_z_aboard, n_z_kinds, n_z_figures, n_z_longings, n_z_seas)) : Met l yX3_addHand wsX3_addHand rmX3_addHand (va_Pc [.ref a_z, .int p0, .int p1, .int p2] (sPc D (tyL cI cJ) [(a_z, .inr (3, [.ref a_z_cells, .int z_places, .ref a_z_kinds, .ref a_z_figures, .ref a_z_longings, .ref a_z_seas, .int z_hands, .int z_aboard, .int z_ship, .int z_day, .int z_rows, .int z_columns])), (a_z_kinds, .inl (cI, 7, .inl z_kinds)), (a_z_figures, .inl (cI, 7, .inl z_figures)), (a_z_longings, .inl (cI, 7, .inl z_longings)), (a_z_seas, .inl (cI, 7, .inl z_seas))] sz)) (qI D (tyL cI cJ) [(a_z, .inr (3, [.ref a_z_cells, .int z_places, .ref a_z_kinds, .ref a_z_figures, .ref a_z_longings, .ref a_z_seas, .int z_hands, .int z_aboard, .int z_ship, .int z_day, .int z_rows, .int z_columns])), (a_z_kinds, .inl (cI, 7, .inl z_kinds)), (a_z_figures, .inl (cI, 7, .inl z_figures)), (a_z_longings, .inl (cI, 7, .inl z_longings)), (a_z_seas, .inl (cI, 7, .inl z_seas))] sz [(a_z, .inr (3, [.ref a_z_cells, .int z_places, .ref a_z_kinds, .ref a_z_figures, .ref a_z_longings, .ref a_z_seas, .int n_z_hands, .int n_z_aboard, .int z_ship, .int z_day, .int z_rows, .int z_columns])), (a_z_kinds, .inl (cI, 7, .inl n_z_kinds)), (a_z_figures, .inl (cI, 7, .inl n_z_figures)), (a_z_longings, .inl (cI, 7, .inl n_z_longings)), (a_z_seas, .inl (cI, 7, .inl n_z_seas))] r) 0 0 (va_A [(a_z, .inr (3, [.ref a_z_cells, .int z_places, .ref a_z_kinds, .ref a_z_figures, .ref a_z_longings, .ref a_z_seas, .int z_hands, .int z_aboard, .int z_ship, .int z_day, .int z_rows, .int z_columns])), (a_z_kinds, .inl (cI, 7, .inl z_kinds)), (a_z_figures, .inl (cI, 7, .inl z_figures)), (a_z_longings, .inl (cI, 7, .inl z_longings)), (a_z_seas, .inl (cI, 7, .inl z_seas))] sz) := by
  refine st_i (cc := cX3_addHand) (maxL := 4) (by decide) rfl (Nat.le_of_ble_eq_true rfl) ?_
  intro p e s m args below meth c A Q F hret0 H locs hP hS ls hl
  have F : Cx p s m args c cX3_addHand 4 wsX3_addHand RX3 D (tyL cI cJ) A := F
  have hx := F.1.1
  have hb := F.1.2.1
  have hown := F.1.2.2.2.1
  have hts := F.1.2.2.2.2
  have iX3 : ∀ w ∈ wsX30, w ∈ wsX3_addHand := fun w h => (List.mem_cons_of_mem _ (List.mem_append_right _ h))
  have hret : ∀ (pc : Nat) (H : Heap) (locs : List Loc) (ls : Array Slot) (r' : Int32) (m_z_hands : Int32) (m_z_aboard : Int32) (m_z_kinds : Nat → Int32) (m_z_figures : Nat → Int32) (m_z_longings : Nat → Int32) (m_z_seas : Nat → Int32), some (r', m_z_hands, m_z_aboard, m_z_kinds, m_z_figures, m_z_longings, m_z_seas) = some (r, n_z_hands, n_z_aboard, n_z_kinds, n_z_figures, n_z_longings, n_z_seas) → narrow .boolean (.int r') = .int r' → decode cX3_addHand pc = .ok (.ireturn, 1) → WD D A [(a_z, .inr (3, [.ref a_z_cells, .int z_places, .ref a_z_kinds, .ref a_z_figures, .ref a_z_longings, .ref a_z_seas, .int m_z_hands, .int m_z_aboard, .int z_ship, .int z_day, .int z_rows, .int z_columns])), (a_z_kinds, .inl (cI, 7, .inl m_z_kinds)), (a_z_figures, .inl (cI, 7, .inl m_z_figures)), (a_z_longings, .inl (cI, 7, .inl m_z_longings)), (a_z_seas, .inl (cI, 7, .inl m_z_seas))] H → va_S A s.heap H locs → W p l e rmX3_addHand s m args below meth c H locs 0 0 Q (F0 m pc ls [.int r']) := by
    intro pc H locs ls r' m_z_hands m_z_aboard m_z_kinds m_z_figures m_z_longings m_z_seas h hn hd hP hS
    cases h
    exact hret0 pc H locs ls hn hd hP hS
  have hl : lv_has ls 4 [(0, .ref a_z), (1, .int p0), (2, .int p1), (3, .int p2)] := hl
  have h := hf
  unfold fX3_addHand at h
  refine lv_aload_n hx hb dX3_addHand_0 rfl (lv_at hl 0 rfl) ?_
  refine gt_X3_31 F iX3 (List.mem_cons_of_mem _ (List.mem_append_left _ (List.mem_of_getElem? (i := 0) rfl))) hP 0 rfl dX3_addHand_1 ?_
  refine lv_bipush (v := 7) hx hb dX3_addHand_4 (by decide) ?_
  refine lv_icmp_ge (tgt := 21) hx hb dX3_addHand_6 (by decide) (fun hc8 => ?_) (fun hc8 => ?_)
  · have h := it_p hc8 h
    refine lv_iconst (v := 0) hx hb dX3_addHand_21 (by decide) ?_
    exact hret 22 H locs ls 0 z_hands z_aboard z_kinds z_figures z_longings z_seas h rfl dX3_addHand_22 hP hS
  · have h := it_n hc8 h
    refine lv_iload_n hx hb dX3_addHand_9 rfl (lv_at hl 3 rfl) ?_
    refine lv_if_lt (tgt := 21) hx hb dX3_addHand_10 (by decide) (fun hc9 => ?_) (fun hc9 => ?_)
    · have h := it_p hc9 h
      refine lv_iconst (v := 0) hx hb dX3_addHand_21 (by decide) ?_
      exact hret 22 H locs ls 0 z_hands z_aboard z_kinds z_figures z_longings z_seas h rfl dX3_addHand_22 hP hS
    · have h := it_n hc9 h
      refine lv_iload_n hx hb dX3_addHand_13 rfl (lv_at hl 3 rfl) ?_
      refine lv_aload_n hx hb dX3_addHand_14 rfl (lv_at hl 0 rfl) ?_
      refine gt_X3_27 F iX3 (List.mem_cons_of_mem _ (List.mem_append_left _ (List.mem_of_getElem? (i := 1) rfl))) hP 0 rfl dX3_addHand_15 ?_
      refine lv_icmp_lt (tgt := 23) hx hb dX3_addHand_18 (by decide) (fun hc10 => ?_) (fun hc10 => ?_)
      · have h := it_p hc10 h
        refine lv_aload_n hx hb dX3_addHand_23 rfl (lv_at hl 0 rfl) ?_
        refine gt_X3_15 F iX3 (List.mem_cons_of_mem _ (List.mem_append_left _ (List.mem_of_getElem? (i := 2) rfl))) hP 0 rfl dX3_addHand_24 ?_
        refine lv_aload_n hx hb dX3_addHand_27 rfl (lv_at hl 0 rfl) ?_
        refine gt_X3_31 F iX3 (List.mem_cons_of_mem _ (List.mem_append_left _ (List.mem_of_getElem? (i := 0) rfl))) hP 0 rfl dX3_addHand_28 ?_
        refine lv_iload_n hx hb dX3_addHand_31 rfl (lv_at hl 1 rfl) ?_
        obtain ⟨hg11, h⟩ := gd_e h
        refine r_is F hP hS 1 rfl rfl hg11 dX3_addHand_32 (fun H locs hP hS => ?_)
        have hP : WD D A [(a_z, .inr (3, [.ref a_z_cells, .int z_places, .ref a_z_kinds, .ref a_z_figures, .ref a_z_longings, .ref a_z_seas, .int z_hands, .int z_aboard, .int z_ship, .int z_day, .int z_rows, .int z_columns])), (a_z_kinds, .inl (cI, 7, .inl (upd z_kinds z_hands.toNatClampNeg p0))), (a_z_figures, .inl (cI, 7, .inl z_figures)), (a_z_longings, .inl (cI, 7, .inl z_longings)), (a_z_seas, .inl (cI, 7, .inl z_seas))] H := hP
        refine lv_aload_n hx hb dX3_addHand_33 rfl (lv_at hl 0 rfl) ?_
        refine gt_X3_18 F iX3 (List.mem_cons_of_mem _ (List.mem_append_left _ (List.mem_of_getElem? (i := 3) rfl))) hP 0 rfl dX3_addHand_34 ?_
        refine lv_aload_n hx hb dX3_addHand_37 rfl (lv_at hl 0 rfl) ?_
        refine gt_X3_31 F iX3 (List.mem_cons_of_mem _ (List.mem_append_left _ (List.mem_of_getElem? (i := 0) rfl))) hP 0 rfl dX3_addHand_38 ?_
        refine lv_iload_n hx hb dX3_addHand_41 rfl (lv_at hl 2 rfl) ?_
        obtain ⟨hg12, h⟩ := gd_e h
        refine r_is F hP hS 2 rfl rfl hg12 dX3_addHand_42 (fun H locs hP hS => ?_)
        have hP : WD D A [(a_z, .inr (3, [.ref a_z_cells, .int z_places, .ref a_z_kinds, .ref a_z_figures, .ref a_z_longings, .ref a_z_seas, .int z_hands, .int z_aboard, .int z_ship, .int z_day, .int z_rows, .int z_columns])), (a_z_kinds, .inl (cI, 7, .inl (upd z_kinds z_hands.toNatClampNeg p0))), (a_z_figures, .inl (cI, 7, .inl (upd z_figures z_hands.toNatClampNeg p1))), (a_z_longings, .inl (cI, 7, .inl z_longings)), (a_z_seas, .inl (cI, 7, .inl z_seas))] H := hP
        refine lv_aload_n hx hb dX3_addHand_43 rfl (lv_at hl 0 rfl) ?_
        refine gt_X3_21 F iX3 (List.mem_cons_of_mem _ (List.mem_append_left _ (List.mem_of_getElem? (i := 4) rfl))) hP 0 rfl dX3_addHand_44 ?_
        refine lv_aload_n hx hb dX3_addHand_47 rfl (lv_at hl 0 rfl) ?_
        refine gt_X3_31 F iX3 (List.mem_cons_of_mem _ (List.mem_append_left _ (List.mem_of_getElem? (i := 0) rfl))) hP 0 rfl dX3_addHand_48 ?_
        refine lv_iload_n hx hb dX3_addHand_51 rfl (lv_at hl 3 rfl) ?_
        obtain ⟨hg13, h⟩ := gd_e h
        refine r_is F hP hS 3 rfl rfl hg13 dX3_addHand_52 (fun H locs hP hS => ?_)
        have hP : WD D A [(a_z, .inr (3, [.ref a_z_cells, .int z_places, .ref a_z_kinds, .ref a_z_figures, .ref a_z_longings, .ref a_z_seas, .int z_hands, .int z_aboard, .int z_ship, .int z_day, .int z_rows, .int z_columns])), (a_z_kinds, .inl (cI, 7, .inl (upd z_kinds z_hands.toNatClampNeg p0))), (a_z_figures, .inl (cI, 7, .inl (upd z_figures z_hands.toNatClampNeg p1))), (a_z_longings, .inl (cI, 7, .inl (upd z_longings z_hands.toNatClampNeg p2))), (a_z_seas, .inl (cI, 7, .inl z_seas))] H := hP
        refine lv_aload_n hx hb dX3_addHand_53 rfl (lv_at hl 0 rfl) ?_
        refine gt_X3_24 F iX3 (List.mem_cons_of_mem _ (List.mem_append_left _ (List.mem_of_getElem? (i := 5) rfl))) hP 0 rfl dX3_addHand_54 ?_
        refine lv_aload_n hx hb dX3_addHand_57 rfl (lv_at hl 0 rfl) ?_
        refine gt_X3_31 F iX3 (List.mem_cons_of_mem _ (List.mem_append_left _ (List.mem_of_getElem? (i := 0) rfl))) hP 0 rfl dX3_addHand_58 ?_
        refine lv_iconst (v := 0) hx hb dX3_addHand_61 (by decide) ?_
        obtain ⟨hg14, h⟩ := gd_e h
        refine r_is F hP hS 4 rfl rfl hg14 dX3_addHand_62 (fun H locs hP hS => ?_)
        have hP : WD D A [(a_z, .inr (3, [.ref a_z_cells, .int z_places, .ref a_z_kinds, .ref a_z_figures, .ref a_z_longings, .ref a_z_seas, .int z_hands, .int z_aboard, .int z_ship, .int z_day, .int z_rows, .int z_columns])), (a_z_kinds, .inl (cI, 7, .inl (upd z_kinds z_hands.toNatClampNeg p0))), (a_z_figures, .inl (cI, 7, .inl (upd z_figures z_hands.toNatClampNeg p1))), (a_z_longings, .inl (cI, 7, .inl (upd z_longings z_hands.toNatClampNeg p2))), (a_z_seas, .inl (cI, 7, .inl (upd z_seas z_hands.toNatClampNeg 0)))] H := hP
        refine lv_aload_n hx hb dX3_addHand_63 rfl (lv_at hl 0 rfl) ?_
        refine lv_dup hx hb dX3_addHand_64 rfl ?_
        refine gt_X3_34 F iX3 (List.mem_cons_of_mem _ (List.mem_append_left _ (List.mem_of_getElem? (i := 6) rfl))) hP 0 rfl dX3_addHand_65 ?_
        refine lv_iconst (v := 1) hx hb dX3_addHand_68 (by decide) ?_
        refine lv_aload_n hx hb dX3_addHand_69 rfl (lv_at hl 0 rfl) ?_
        refine gt_X3_31 F iX3 (List.mem_cons_of_mem _ (List.mem_append_left _ (List.mem_of_getElem? (i := 0) rfl))) hP 0 rfl dX3_addHand_70 ?_
        refine lv_ishl hx hb dX3_addHand_73 ?_
        refine lv_ior hx hb dX3_addHand_74 ?_
        refine pt_X3_34 F iX3 (List.mem_cons_of_mem _ (List.mem_append_left _ (List.mem_of_getElem? (i := 6) rfl))) hP hS 0 rfl dX3_addHand_75 (fun H locs hP hS => ?_)
        have hP : WD D A [(a_z, .inr (3, [.ref a_z_cells, .int z_places, .ref a_z_kinds, .ref a_z_figures, .ref a_z_longings, .ref a_z_seas, .int z_hands, .int (z_aboard ||| (1 <<< (z_hands &&& 31))), .int z_ship, .int z_day, .int z_rows, .int z_columns])), (a_z_kinds, .inl (cI, 7, .inl (upd z_kinds z_hands.toNatClampNeg p0))), (a_z_figures, .inl (cI, 7, .inl (upd z_figures z_hands.toNatClampNeg p1))), (a_z_longings, .inl (cI, 7, .inl (upd z_longings z_hands.toNatClampNeg p2))), (a_z_seas, .inl (cI, 7, .inl (upd z_seas z_hands.toNatClampNeg 0)))] H := hP
        refine lv_aload_n hx hb dX3_addHand_78 rfl (lv_at hl 0 rfl) ?_
        refine lv_dup hx hb dX3_addHand_79 rfl ?_
        refine gt_X3_31 F iX3 (List.mem_cons_of_mem _ (List.mem_append_left _ (List.mem_of_getElem? (i := 0) rfl))) hP 0 rfl dX3_addHand_80 ?_
        refine lv_iconst (v := 1) hx hb dX3_addHand_83 (by decide) ?_
        refine lv_iadd hx hb dX3_addHand_84 ?_
        refine pt_X3_31 F iX3 (List.mem_cons_of_mem _ (List.mem_append_left _ (List.mem_of_getElem? (i := 0) rfl))) hP hS 0 rfl dX3_addHand_85 (fun H locs hP hS => ?_)
        have hP : WD D A [(a_z, .inr (3, [.ref a_z_cells, .int z_places, .ref a_z_kinds, .ref a_z_figures, .ref a_z_longings, .ref a_z_seas, .int (z_hands + 1), .int (z_aboard ||| (1 <<< (z_hands &&& 31))), .int z_ship, .int z_day, .int z_rows, .int z_columns])), (a_z_kinds, .inl (cI, 7, .inl (upd z_kinds z_hands.toNatClampNeg p0))), (a_z_figures, .inl (cI, 7, .inl (upd z_figures z_hands.toNatClampNeg p1))), (a_z_longings, .inl (cI, 7, .inl (upd z_longings z_hands.toNatClampNeg p2))), (a_z_seas, .inl (cI, 7, .inl (upd z_seas z_hands.toNatClampNeg 0)))] H := hP
        refine lv_iconst (v := 1) hx hb dX3_addHand_88 (by decide) ?_
        exact hret 89 H locs ls 1 (z_hands + 1) (z_aboard ||| (1 <<< (z_hands &&& 31))) (upd z_kinds z_hands.toNatClampNeg p0) (upd z_figures z_hands.toNatClampNeg p1) (upd z_longings z_hands.toNatClampNeg p2) (upd z_seas z_hands.toNatClampNeg 0) h rfl dX3_addHand_89 hP hS
      · have h := it_n hc10 h
        refine lv_iconst (v := 0) hx hb dX3_addHand_21 (by decide) ?_
        exact hret 22 H locs ls 0 z_hands z_aboard z_kinds z_figures z_longings z_seas h rfl dX3_addHand_22 hP hS
theorem eSX3_changeSide : yX3_changeSide.cls ≠ "java/lang/invoke/MethodHandle" ∧ yX3_changeSide.cls ≠ "java/lang/invoke/VarHandle" ∧ (parseMethodDescriptor yX3_changeSide.desc).map (fun d => d.parameters.length) = some 1 := by decide +kernel
theorem eVX3_changeSide : yX3_changeSide.cls = RX3 ∧ yX3_changeSide.cls ≠ "java/lang/invoke/MethodHandle" ∧ yX3_changeSide.cls ≠ "java/lang/invoke/VarHandle" ∧ (parseMethodDescriptor yX3_changeSide.desc).map (fun d => d.parameters.length) = some 1 := ⟨rfl, eSX3_changeSide⟩
abbrev rmX3_changeSide : Room := { frames := 0, cells := 0, slots := 0, locals := 0 }
def fX3_changeSide (g : Nat) (p0 : Int32) (z_aboard : Int32) : Option (Int32) := some (z_aboard ^^^ (1 <<< (p0 &&& 31)))
set_option maxHeartbeats 4000000 in
set_option maxRecDepth 100000 in
theorem kX3_changeSide (l : Launch) (D : va_G) (cI cJ : ClassId) (sz g : Nat) (a_z a_z_cells a_z_kinds a_z_figures a_z_longings a_z_seas : Nat) (z_places : Int32) (z_hands : Int32) (z_aboard : Int32) (z_ship : Int32) (z_day : Int32) (z_rows : Int32) (z_columns : Int32) (p0 : Int32) (n_z_aboard : Int32) (hf : fX3_changeSide g p0 z_aboard = some n_z_aboard) : Met l yX3_changeSide wsX3_changeSide rmX3_changeSide (va_Pc [.ref a_z, .int p0] (sPc D (tyL cI cJ) [(a_z, .inr (3, [.ref a_z_cells, .int z_places, .ref a_z_kinds, .ref a_z_figures, .ref a_z_longings, .ref a_z_seas, .int z_hands, .int z_aboard, .int z_ship, .int z_day, .int z_rows, .int z_columns]))] sz)) (qV D (tyL cI cJ) [(a_z, .inr (3, [.ref a_z_cells, .int z_places, .ref a_z_kinds, .ref a_z_figures, .ref a_z_longings, .ref a_z_seas, .int z_hands, .int z_aboard, .int z_ship, .int z_day, .int z_rows, .int z_columns]))] sz [(a_z, .inr (3, [.ref a_z_cells, .int z_places, .ref a_z_kinds, .ref a_z_figures, .ref a_z_longings, .ref a_z_seas, .int z_hands, .int n_z_aboard, .int z_ship, .int z_day, .int z_rows, .int z_columns]))]) 0 0 (va_A [(a_z, .inr (3, [.ref a_z_cells, .int z_places, .ref a_z_kinds, .ref a_z_figures, .ref a_z_longings, .ref a_z_seas, .int z_hands, .int z_aboard, .int z_ship, .int z_day, .int z_rows, .int z_columns]))] sz) := by
  refine st_v (cc := cX3_changeSide) (maxL := 2) (by decide) rfl (Nat.le_of_ble_eq_true rfl) ?_
  intro p e s m args below meth c A Q F hret0 H locs hP hS ls hl
  have F : Cx p s m args c cX3_changeSide 2 wsX3_changeSide RX3 D (tyL cI cJ) A := F
  have hx := F.1.1
  have hb := F.1.2.1
  have hown := F.1.2.2.2.1
  have hts := F.1.2.2.2.2
  have iX3 : ∀ w ∈ wsX30, w ∈ wsX3_changeSide := fun w h => (List.mem_cons_of_mem _ (List.mem_append_right _ h))
  have hret : ∀ (pc : Nat) (H : Heap) (locs : List Loc) (ls : Array Slot) (m_z_aboard : Int32), some m_z_aboard = some n_z_aboard → decode cX3_changeSide pc = .ok (.return_, 1) → WD D A [(a_z, .inr (3, [.ref a_z_cells, .int z_places, .ref a_z_kinds, .ref a_z_figures, .ref a_z_longings, .ref a_z_seas, .int z_hands, .int m_z_aboard, .int z_ship, .int z_day, .int z_rows, .int z_columns]))] H → va_S A s.heap H locs → W p l e rmX3_changeSide s m args below meth c H locs 0 0 Q (F0 m pc ls []) := by
    intro pc H locs ls m_z_aboard h hd hP hS
    cases h
    exact hret0 pc H locs ls hd hP hS
  have hl : lv_has ls 2 [(0, .ref a_z), (1, .int p0)] := hl
  have h := hf
  unfold fX3_changeSide at h
  refine lv_aload_n hx hb dX3_changeSide_0 rfl (lv_at hl 0 rfl) ?_
  refine lv_dup hx hb dX3_changeSide_1 rfl ?_
  refine gt_X3_34 F iX3 (List.mem_cons_of_mem _ (List.mem_append_left _ (List.mem_of_getElem? (i := 0) rfl))) hP 0 rfl dX3_changeSide_2 ?_
  refine lv_iconst (v := 1) hx hb dX3_changeSide_5 (by decide) ?_
  refine lv_iload_n hx hb dX3_changeSide_6 rfl (lv_at hl 1 rfl) ?_
  refine lv_ishl hx hb dX3_changeSide_7 ?_
  refine lv_ixor hx hb dX3_changeSide_8 ?_
  refine pt_X3_34 F iX3 (List.mem_cons_of_mem _ (List.mem_append_left _ (List.mem_of_getElem? (i := 0) rfl))) hP hS 0 rfl dX3_changeSide_9 (fun H locs hP hS => ?_)
  have hP : WD D A [(a_z, .inr (3, [.ref a_z_cells, .int z_places, .ref a_z_kinds, .ref a_z_figures, .ref a_z_longings, .ref a_z_seas, .int z_hands, .int (z_aboard ^^^ (1 <<< (p0 &&& 31))), .int z_ship, .int z_day, .int z_rows, .int z_columns]))] H := hP
  exact hret 12 H locs ls (z_aboard ^^^ (1 <<< (p0 &&& 31))) h dX3_changeSide_12 hP hS
theorem eSX3_leaveAshore : yX3_leaveAshore.cls ≠ "java/lang/invoke/MethodHandle" ∧ yX3_leaveAshore.cls ≠ "java/lang/invoke/VarHandle" ∧ (parseMethodDescriptor yX3_leaveAshore.desc).map (fun d => d.parameters.length) = some 1 := by decide +kernel
theorem eVX3_leaveAshore : yX3_leaveAshore.cls = RX3 ∧ yX3_leaveAshore.cls ≠ "java/lang/invoke/MethodHandle" ∧ yX3_leaveAshore.cls ≠ "java/lang/invoke/VarHandle" ∧ (parseMethodDescriptor yX3_leaveAshore.desc).map (fun d => d.parameters.length) = some 1 := ⟨rfl, eSX3_leaveAshore⟩
abbrev rmX3_leaveAshore : Room := { frames := 0, cells := 0, slots := 0, locals := 0 }
def fX3_leaveAshore (g : Nat) (p0 : Int32) (z_aboard : Int32) : Option (Int32) := some (z_aboard &&& ((1 <<< (p0 &&& 31)) ^^^ (-1)))
set_option maxHeartbeats 4000000 in
set_option maxRecDepth 100000 in
theorem kX3_leaveAshore (l : Launch) (D : va_G) (cI cJ : ClassId) (sz g : Nat) (a_z a_z_cells a_z_kinds a_z_figures a_z_longings a_z_seas : Nat) (z_places : Int32) (z_hands : Int32) (z_aboard : Int32) (z_ship : Int32) (z_day : Int32) (z_rows : Int32) (z_columns : Int32) (p0 : Int32) (n_z_aboard : Int32) (hf : fX3_leaveAshore g p0 z_aboard = some n_z_aboard) : Met l yX3_leaveAshore wsX3_leaveAshore rmX3_leaveAshore (va_Pc [.ref a_z, .int p0] (sPc D (tyL cI cJ) [(a_z, .inr (3, [.ref a_z_cells, .int z_places, .ref a_z_kinds, .ref a_z_figures, .ref a_z_longings, .ref a_z_seas, .int z_hands, .int z_aboard, .int z_ship, .int z_day, .int z_rows, .int z_columns]))] sz)) (qV D (tyL cI cJ) [(a_z, .inr (3, [.ref a_z_cells, .int z_places, .ref a_z_kinds, .ref a_z_figures, .ref a_z_longings, .ref a_z_seas, .int z_hands, .int z_aboard, .int z_ship, .int z_day, .int z_rows, .int z_columns]))] sz [(a_z, .inr (3, [.ref a_z_cells, .int z_places, .ref a_z_kinds, .ref a_z_figures, .ref a_z_longings, .ref a_z_seas, .int z_hands, .int n_z_aboard, .int z_ship, .int z_day, .int z_rows, .int z_columns]))]) 0 0 (va_A [(a_z, .inr (3, [.ref a_z_cells, .int z_places, .ref a_z_kinds, .ref a_z_figures, .ref a_z_longings, .ref a_z_seas, .int z_hands, .int z_aboard, .int z_ship, .int z_day, .int z_rows, .int z_columns]))] sz) := by
  refine st_v (cc := cX3_leaveAshore) (maxL := 2) (by decide) rfl (Nat.le_of_ble_eq_true rfl) ?_
  intro p e s m args below meth c A Q F hret0 H locs hP hS ls hl
  have F : Cx p s m args c cX3_leaveAshore 2 wsX3_leaveAshore RX3 D (tyL cI cJ) A := F
  have hx := F.1.1
  have hb := F.1.2.1
  have hown := F.1.2.2.2.1
  have hts := F.1.2.2.2.2
  have iX3 : ∀ w ∈ wsX30, w ∈ wsX3_leaveAshore := fun w h => (List.mem_cons_of_mem _ (List.mem_append_right _ h))
  have hret : ∀ (pc : Nat) (H : Heap) (locs : List Loc) (ls : Array Slot) (m_z_aboard : Int32), some m_z_aboard = some n_z_aboard → decode cX3_leaveAshore pc = .ok (.return_, 1) → WD D A [(a_z, .inr (3, [.ref a_z_cells, .int z_places, .ref a_z_kinds, .ref a_z_figures, .ref a_z_longings, .ref a_z_seas, .int z_hands, .int m_z_aboard, .int z_ship, .int z_day, .int z_rows, .int z_columns]))] H → va_S A s.heap H locs → W p l e rmX3_leaveAshore s m args below meth c H locs 0 0 Q (F0 m pc ls []) := by
    intro pc H locs ls m_z_aboard h hd hP hS
    cases h
    exact hret0 pc H locs ls hd hP hS
  have hl : lv_has ls 2 [(0, .ref a_z), (1, .int p0)] := hl
  have h := hf
  unfold fX3_leaveAshore at h
  refine lv_aload_n hx hb dX3_leaveAshore_0 rfl (lv_at hl 0 rfl) ?_
  refine lv_dup hx hb dX3_leaveAshore_1 rfl ?_
  refine gt_X3_34 F iX3 (List.mem_cons_of_mem _ (List.mem_append_left _ (List.mem_of_getElem? (i := 0) rfl))) hP 0 rfl dX3_leaveAshore_2 ?_
  refine lv_iconst (v := 1) hx hb dX3_leaveAshore_5 (by decide) ?_
  refine lv_iload_n hx hb dX3_leaveAshore_6 rfl (lv_at hl 1 rfl) ?_
  refine lv_ishl hx hb dX3_leaveAshore_7 ?_
  refine lv_iconst (v := (-1)) hx hb dX3_leaveAshore_8 (by decide) ?_
  refine lv_ixor hx hb dX3_leaveAshore_9 ?_
  refine lv_iand hx hb dX3_leaveAshore_10 ?_
  refine pt_X3_34 F iX3 (List.mem_cons_of_mem _ (List.mem_append_left _ (List.mem_of_getElem? (i := 0) rfl))) hP hS 0 rfl dX3_leaveAshore_11 (fun H locs hP hS => ?_)
  have hP : WD D A [(a_z, .inr (3, [.ref a_z_cells, .int z_places, .ref a_z_kinds, .ref a_z_figures, .ref a_z_longings, .ref a_z_seas, .int z_hands, .int (z_aboard &&& ((1 <<< (p0 &&& 31)) ^^^ (-1))), .int z_ship, .int z_day, .int z_rows, .int z_columns]))] H := hP
  exact hret 14 H locs ls (z_aboard &&& ((1 <<< (p0 &&& 31)) ^^^ (-1))) h dX3_leaveAshore_14 hP hS
theorem eSX3_dropLetter : yX3_dropLetter.cls ≠ "java/lang/invoke/MethodHandle" ∧ yX3_dropLetter.cls ≠ "java/lang/invoke/VarHandle" ∧ (parseMethodDescriptor yX3_dropLetter.desc).map (fun d => d.parameters.length) = some 1 := by decide +kernel
theorem eVX3_dropLetter : yX3_dropLetter.cls = RX3 ∧ yX3_dropLetter.cls ≠ "java/lang/invoke/MethodHandle" ∧ yX3_dropLetter.cls ≠ "java/lang/invoke/VarHandle" ∧ (parseMethodDescriptor yX3_dropLetter.desc).map (fun d => d.parameters.length) = some 1 := ⟨rfl, eSX3_dropLetter⟩
abbrev rmX3_dropLetter : Room := { frames := 0, cells := 0, slots := 0, locals := 0 }
def fX3_dropLetter (g : Nat) (p0 : Int32) (z_seas : Nat → Int32) : Option ((Nat → Int32)) := gd (inB p0 7) (gd (inB p0 7) (some (upd z_seas p0.toNatClampNeg ((z_seas p0.toNatClampNeg) / 2))))
set_option maxHeartbeats 4000000 in
set_option maxRecDepth 100000 in
theorem kX3_dropLetter (l : Launch) (D : va_G) (cI cJ : ClassId) (sz g : Nat) (a_z a_z_cells a_z_kinds a_z_figures a_z_longings a_z_seas : Nat) (z_places : Int32) (z_hands : Int32) (z_aboard : Int32) (z_ship : Int32) (z_day : Int32) (z_rows : Int32) (z_columns : Int32) (z_seas : Nat → Int32) (p0 : Int32) (n_z_seas : Nat → Int32) (hf : fX3_dropLetter g p0 z_seas = some n_z_seas) : Met l yX3_dropLetter wsX3_dropLetter rmX3_dropLetter (va_Pc [.ref a_z, .int p0] (sPc D (tyL cI cJ) [(a_z, .inr (3, [.ref a_z_cells, .int z_places, .ref a_z_kinds, .ref a_z_figures, .ref a_z_longings, .ref a_z_seas, .int z_hands, .int z_aboard, .int z_ship, .int z_day, .int z_rows, .int z_columns])), (a_z_seas, .inl (cI, 7, .inl z_seas))] sz)) (qV D (tyL cI cJ) [(a_z, .inr (3, [.ref a_z_cells, .int z_places, .ref a_z_kinds, .ref a_z_figures, .ref a_z_longings, .ref a_z_seas, .int z_hands, .int z_aboard, .int z_ship, .int z_day, .int z_rows, .int z_columns])), (a_z_seas, .inl (cI, 7, .inl z_seas))] sz [(a_z, .inr (3, [.ref a_z_cells, .int z_places, .ref a_z_kinds, .ref a_z_figures, .ref a_z_longings, .ref a_z_seas, .int z_hands, .int z_aboard, .int z_ship, .int z_day, .int z_rows, .int z_columns])), (a_z_seas, .inl (cI, 7, .inl n_z_seas))]) 0 0 (va_A [(a_z, .inr (3, [.ref a_z_cells, .int z_places, .ref a_z_kinds, .ref a_z_figures, .ref a_z_longings, .ref a_z_seas, .int z_hands, .int z_aboard, .int z_ship, .int z_day, .int z_rows, .int z_columns])), (a_z_seas, .inl (cI, 7, .inl z_seas))] sz) := by
  refine st_v (cc := cX3_dropLetter) (maxL := 2) (by decide) rfl (Nat.le_of_ble_eq_true rfl) ?_
  intro p e s m args below meth c A Q F hret0 H locs hP hS ls hl
  have F : Cx p s m args c cX3_dropLetter 2 wsX3_dropLetter RX3 D (tyL cI cJ) A := F
  have hx := F.1.1
  have hb := F.1.2.1
  have hown := F.1.2.2.2.1
  have hts := F.1.2.2.2.2
  have iX3 : ∀ w ∈ wsX30, w ∈ wsX3_dropLetter := fun w h => (List.mem_cons_of_mem _ (List.mem_append_right _ h))
  have hret : ∀ (pc : Nat) (H : Heap) (locs : List Loc) (ls : Array Slot) (m_z_seas : Nat → Int32), some m_z_seas = some n_z_seas → decode cX3_dropLetter pc = .ok (.return_, 1) → WD D A [(a_z, .inr (3, [.ref a_z_cells, .int z_places, .ref a_z_kinds, .ref a_z_figures, .ref a_z_longings, .ref a_z_seas, .int z_hands, .int z_aboard, .int z_ship, .int z_day, .int z_rows, .int z_columns])), (a_z_seas, .inl (cI, 7, .inl m_z_seas))] H → va_S A s.heap H locs → W p l e rmX3_dropLetter s m args below meth c H locs 0 0 Q (F0 m pc ls []) := by
    intro pc H locs ls m_z_seas h hd hP hS
    cases h
    exact hret0 pc H locs ls hd hP hS
  have hl : lv_has ls 2 [(0, .ref a_z), (1, .int p0)] := hl
  have h := hf
  unfold fX3_dropLetter at h
  refine lv_aload_n hx hb dX3_dropLetter_0 rfl (lv_at hl 0 rfl) ?_
  refine gt_X3_24 F iX3 (List.mem_cons_of_mem _ (List.mem_append_left _ (List.mem_of_getElem? (i := 0) rfl))) hP 0 rfl dX3_dropLetter_1 ?_
  refine lv_iload_n hx hb dX3_dropLetter_4 rfl (lv_at hl 1 rfl) ?_
  refine lv_aload_n hx hb dX3_dropLetter_5 rfl (lv_at hl 0 rfl) ?_
  refine gt_X3_24 F iX3 (List.mem_cons_of_mem _ (List.mem_append_left _ (List.mem_of_getElem? (i := 0) rfl))) hP 0 rfl dX3_dropLetter_6 ?_
  refine lv_iload_n hx hb dX3_dropLetter_9 rfl (lv_at hl 1 rfl) ?_
  obtain ⟨hg3, h⟩ := gd_e h
  refine r_ia F hP 1 rfl rfl hg3 dX3_dropLetter_10 ?_
  refine lv_iconst (v := 2) hx hb dX3_dropLetter_11 (by decide) ?_
  refine lv_idiv hx hb dX3_dropLetter_12 (by decide) ?_
  obtain ⟨hg4, h⟩ := gd_e h
  refine r_is F hP hS 1 rfl rfl hg4 dX3_dropLetter_13 (fun H locs hP hS => ?_)
  have hP : WD D A [(a_z, .inr (3, [.ref a_z_cells, .int z_places, .ref a_z_kinds, .ref a_z_figures, .ref a_z_longings, .ref a_z_seas, .int z_hands, .int z_aboard, .int z_ship, .int z_day, .int z_rows, .int z_columns])), (a_z_seas, .inl (cI, 7, .inl (upd z_seas p0.toNatClampNeg ((z_seas p0.toNatClampNeg) / 2))))] H := hP
  exact hret 14 H locs ls (upd z_seas p0.toNatClampNeg ((z_seas p0.toNatClampNeg) / 2)) h dX3_dropLetter_14 hP hS
theorem eSX3_dropLetters : yX3_dropLetters.cls ≠ "java/lang/invoke/MethodHandle" ∧ yX3_dropLetters.cls ≠ "java/lang/invoke/VarHandle" ∧ (parseMethodDescriptor yX3_dropLetters.desc).map (fun d => d.parameters.length) = some 1 := by decide +kernel
theorem eVX3_dropLetters : yX3_dropLetters.cls = RX3 ∧ yX3_dropLetters.cls ≠ "java/lang/invoke/MethodHandle" ∧ yX3_dropLetters.cls ≠ "java/lang/invoke/VarHandle" ∧ (parseMethodDescriptor yX3_dropLetters.desc).map (fun d => d.parameters.length) = some 1 := ⟨rfl, eSX3_dropLetters⟩
abbrev rmX3_dropLetters : Room := { frames := 1, cells := 0, slots := 0, locals := 21 }
def fX3_dropLetters_L2_b (g : Nat) (x1_L2 : Int32) (z_hands : Int32) (self : Int32 → (Nat → Int32) → Option ((Nat → Int32))) (x2_L2 : Int32) (z_seas_L2 : Nat → Int32) : Option ((Nat → Int32)) := if z_hands ≤ x2_L2 then (some z_seas_L2) else (if ((x1_L2 >>> (x2_L2 &&& 31)) &&& 1) = 1 then (bd1 (fX3_dropLetter g x2_L2 z_seas_L2) fun z_seas_4 => (self (x2_L2 + 1) z_seas_4)) else (self (x2_L2 + 1) z_seas_L2))
def fX3_dropLetters_L2 (g : Nat) (x1_L2 : Int32) (z_hands : Int32) (n : Nat) : Int32 → (Nat → Int32) → Option ((Nat → Int32)) := lp (fX3_dropLetters_L2_b g x1_L2 z_hands) (fun _ _ => none) n
def fX3_dropLetters (g : Nat) (p0 : Int32) (z_hands : Int32) (z_seas : Nat → Int32) : Option ((Nat → Int32)) := bd1 (fX3_dropLetters_L2 g p0 z_hands g 0 z_seas) fun t6 => (some t6)
set_option maxHeartbeats 4000000 in
set_option maxRecDepth 100000 in
theorem kX3_dropLetters (l : Launch) (D : va_G) (cI cJ : ClassId) (sz g : Nat) (a_z a_z_cells a_z_kinds a_z_figures a_z_longings a_z_seas : Nat) (z_places : Int32) (z_hands : Int32) (z_aboard : Int32) (z_ship : Int32) (z_day : Int32) (z_rows : Int32) (z_columns : Int32) (z_seas : Nat → Int32) (p0 : Int32) (n_z_seas : Nat → Int32) (hf : fX3_dropLetters g p0 z_hands z_seas = some n_z_seas) : Met l yX3_dropLetters wsX3_dropLetters rmX3_dropLetters (va_Pc [.ref a_z, .int p0] (sPc D (tyL cI cJ) [(a_z, .inr (3, [.ref a_z_cells, .int z_places, .ref a_z_kinds, .ref a_z_figures, .ref a_z_longings, .ref a_z_seas, .int z_hands, .int z_aboard, .int z_ship, .int z_day, .int z_rows, .int z_columns])), (a_z_seas, .inl (cI, 7, .inl z_seas))] sz)) (qV D (tyL cI cJ) [(a_z, .inr (3, [.ref a_z_cells, .int z_places, .ref a_z_kinds, .ref a_z_figures, .ref a_z_longings, .ref a_z_seas, .int z_hands, .int z_aboard, .int z_ship, .int z_day, .int z_rows, .int z_columns])), (a_z_seas, .inl (cI, 7, .inl z_seas))] sz [(a_z, .inr (3, [.ref a_z_cells, .int z_places, .ref a_z_kinds, .ref a_z_figures, .ref a_z_longings, .ref a_z_seas, .int z_hands, .int z_aboard, .int z_ship, .int z_day, .int z_rows, .int z_columns])), (a_z_seas, .inl (cI, 7, .inl n_z_seas))]) 0 0 (va_A [(a_z, .inr (3, [.ref a_z_cells, .int z_places, .ref a_z_kinds, .ref a_z_figures, .ref a_z_longings, .ref a_z_seas, .int z_hands, .int z_aboard, .int z_ship, .int z_day, .int z_rows, .int z_columns])), (a_z_seas, .inl (cI, 7, .inl z_seas))] sz) := by
  refine st_v (cc := cX3_dropLetters) (maxL := 3) (by decide) rfl (Nat.le_of_ble_eq_true rfl) ?_
  intro p e s m args below meth c A Q F hret0 H locs hP hS ls hl
  have F : Cx p s m args c cX3_dropLetters 3 wsX3_dropLetters RX3 D (tyL cI cJ) A := F
  have hx := F.1.1
  have hb := F.1.2.1
  have hown := F.1.2.2.2.1
  have hts := F.1.2.2.2.2
  have iX3 : ∀ w ∈ wsX30, w ∈ wsX3_dropLetters := fun w h => (List.mem_cons_of_mem _ (List.mem_append_right _ h))
  have hret : ∀ (pc : Nat) (H : Heap) (locs : List Loc) (ls : Array Slot) (m_z_seas : Nat → Int32), some m_z_seas = some n_z_seas → decode cX3_dropLetters pc = .ok (.return_, 1) → WD D A [(a_z, .inr (3, [.ref a_z_cells, .int z_places, .ref a_z_kinds, .ref a_z_figures, .ref a_z_longings, .ref a_z_seas, .int z_hands, .int z_aboard, .int z_ship, .int z_day, .int z_rows, .int z_columns])), (a_z_seas, .inl (cI, 7, .inl m_z_seas))] H → va_S A s.heap H locs → W p l e rmX3_dropLetters s m args below meth c H locs 0 0 Q (F0 m pc ls []) := by
    intro pc H locs ls m_z_seas h hd hP hS
    cases h
    exact hret0 pc H locs ls hd hP hS
  have L2 : ∀ (x1_L2 : Int32) (n : Nat) (x2_L2 : Int32) (z_seas_L2 : Nat → Int32) (tt0 : Nat → Int32) (H : Heap) (locs : List Loc) (ls : Array Slot), fX3_dropLetters_L2 g x1_L2 z_hands n x2_L2 z_seas_L2 = some tt0 → WD D A [(a_z, .inr (3, [.ref a_z_cells, .int z_places, .ref a_z_kinds, .ref a_z_figures, .ref a_z_longings, .ref a_z_seas, .int z_hands, .int z_aboard, .int z_ship, .int z_day, .int z_rows, .int z_columns])), (a_z_seas, .inl (cI, 7, .inl z_seas_L2))] H → va_S A s.heap H locs → lv_has ls 3 [(0, .ref a_z), (1, .int x1_L2), (2, .int x2_L2)] → (∀ (H : Heap) (locs : List Loc) (ls : Array Slot), WD D A [(a_z, .inr (3, [.ref a_z_cells, .int z_places, .ref a_z_kinds, .ref a_z_figures, .ref a_z_longings, .ref a_z_seas, .int z_hands, .int z_aboard, .int z_ship, .int z_day, .int z_rows, .int z_columns])), (a_z_seas, .inl (cI, 7, .inl tt0))] H → va_S A s.heap H locs → lv_has ls 3 [] → W p l e rmX3_dropLetters s m args below meth c H locs 0 0 Q (F0 m 30 ls [])) → W p l e rmX3_dropLetters s m args below meth c H locs 0 0 Q (F0 m 2 ls []) := by
    intro x1_L2 n
    induction n with
    | zero =>
      intro x2_L2 z_seas_L2 tt0 H locs ls h
      exact (no_some h).elim
    | succ n ih =>
      intro x2_L2 z_seas_L2 tt0 H locs ls h hP hS hl kE
      have h : fX3_dropLetters_L2_b g x1_L2 z_hands (fX3_dropLetters_L2 g x1_L2 z_hands n) x2_L2 z_seas_L2 = some tt0 := h
      unfold fX3_dropLetters_L2_b at h
      refine lv_iload_n hx hb dX3_dropLetters_2 rfl (lv_at hl 2 rfl) ?_
      refine lv_aload_n hx hb dX3_dropLetters_3 rfl (lv_at hl 0 rfl) ?_
      refine gt_X3_31 F iX3 (List.mem_cons_of_mem _ (List.mem_append_left _ (List.mem_of_getElem? (i := 0) rfl))) hP 0 rfl dX3_dropLetters_4 ?_
      refine lv_icmp_ge (tgt := 30) hx hb dX3_dropLetters_7 (by decide) (fun hc2 => ?_) (fun hc2 => ?_)
      · have h := it_p hc2 h
        cases h
        exact kE H locs ls hP hS (lv_sub hl [] rfl)
      · have h := it_n hc2 h
        refine lv_iload_n hx hb dX3_dropLetters_10 rfl (lv_at hl 1 rfl) ?_
        refine lv_iload_n hx hb dX3_dropLetters_11 rfl (lv_at hl 2 rfl) ?_
        refine lv_ishr hx hb dX3_dropLetters_12 ?_
        refine lv_iconst (v := 1) hx hb dX3_dropLetters_13 (by decide) ?_
        refine lv_iand hx hb dX3_dropLetters_14 ?_
        refine lv_iconst (v := 1) hx hb dX3_dropLetters_15 (by decide) ?_
        refine lv_icmp_ne (tgt := 24) hx hb dX3_dropLetters_16 (by decide) (fun hc3 => ?_) (fun hc3 => ?_)
        · have h := it_n hc3 h
          refine lv_iinc (v := x2_L2 + 1) (lv' := [(2, .int (x2_L2 + 1)), (0, .ref a_z), (1, .int x1_L2)]) hx hb dX3_dropLetters_24 hl (k := 2) rfl rfl (by decide) rfl (fun ls hl => ?_)
          refine lv_goto (tgt := 2) hx hb dX3_dropLetters_27 (by decide) ?_
          exact ih (x2_L2 + 1) z_seas_L2 tt0 H locs ls h hP hS (lv_sub hl [1, 2, 0] rfl) kE
        · have h := it_p hc3 h
          refine lv_aload_n hx hb dX3_dropLetters_19 rfl (lv_at hl 0 rfl) ?_
          refine lv_iload_n hx hb dX3_dropLetters_20 rfl (lv_at hl 2 rfl) ?_
          obtain ⟨z_seas_4, hk5, h⟩ := bd1_e h
          refine cV_v (rest := []) F (kX3_dropLetter l D cI cJ H.size g a_z a_z_cells a_z_kinds a_z_figures a_z_longings a_z_seas z_places z_hands z_aboard z_ship z_day z_rows z_columns z_seas_L2 x2_L2 z_seas_4 hk5) (cwV 1 hts gX3_dropLetters_X3_dropLetter rfl rfl rfl eVX3_dropLetter ⟨Nat.le_of_ble_eq_true rfl, Nat.le_of_ble_eq_true rfl⟩) [0, 1] hP hS (by decide) rfl rfl 0 rfl rfl rfl hl.1 (Nat.le_of_ble_eq_true rfl) ⟨Nat.le_refl _, Nat.le_refl _⟩ rfl dX3_dropLetters_21 (fun H locs hP hS => ?_)
          have hP : WD D A [(a_z, .inr (3, [.ref a_z_cells, .int z_places, .ref a_z_kinds, .ref a_z_figures, .ref a_z_longings, .ref a_z_seas, .int z_hands, .int z_aboard, .int z_ship, .int z_day, .int z_rows, .int z_columns])), (a_z_seas, .inl (cI, 7, .inl z_seas_4))] H := hP
          refine lv_iinc (v := x2_L2 + 1) (lv' := [(2, .int (x2_L2 + 1)), (0, .ref a_z), (1, .int x1_L2)]) hx hb dX3_dropLetters_24 hl (k := 2) rfl rfl (by decide) rfl (fun ls hl => ?_)
          refine lv_goto (tgt := 2) hx hb dX3_dropLetters_27 (by decide) ?_
          exact ih (x2_L2 + 1) z_seas_4 tt0 H locs ls h hP hS (lv_sub hl [1, 2, 0] rfl) kE
  have hl : lv_has ls 3 [(0, .ref a_z), (1, .int p0)] := hl
  have h := hf
  unfold fX3_dropLetters at h
  refine lv_iconst (v := 0) hx hb dX3_dropLetters_0 (by decide) ?_
  refine lv_istore_n (lv' := [(2, .int 0), (0, .ref a_z), (1, .int p0)]) hx hb dX3_dropLetters_1 rfl hl (by decide) rfl (fun ls hl => ?_)
  obtain ⟨t6, hk7, h⟩ := bd1_e h
  refine L2 p0 g 0 z_seas t6 H locs ls hk7 hP hS (lv_sub hl [1, 2, 0] rfl) (fun H locs ls hP hS hl => ?_)
  exact hret 30 H locs ls t6 h dX3_dropLetters_30 hP hS
theorem eSX3_seaOfAll : yX3_seaOfAll.cls ≠ "java/lang/invoke/MethodHandle" ∧ yX3_seaOfAll.cls ≠ "java/lang/invoke/VarHandle" ∧ (parseMethodDescriptor yX3_seaOfAll.desc).map (fun d => d.parameters.length) = some 0 := by decide +kernel
theorem eVX3_seaOfAll : yX3_seaOfAll.cls = RX3 ∧ yX3_seaOfAll.cls ≠ "java/lang/invoke/MethodHandle" ∧ yX3_seaOfAll.cls ≠ "java/lang/invoke/VarHandle" ∧ (parseMethodDescriptor yX3_seaOfAll.desc).map (fun d => d.parameters.length) = some 0 := ⟨rfl, eSX3_seaOfAll⟩
abbrev rmX3_seaOfAll : Room := { frames := 0, cells := 0, slots := 0, locals := 0 }
def fX3_seaOfAll_L4_b (g : Nat) (z_hands : Int32) (z_seas : Nat → Int32) (self : Int32 → Int32 → Option (Int32)) (x1_L4 : Int32) (x2_L4 : Int32) : Option (Int32) := if z_hands ≤ x2_L4 then (some x1_L4) else (gd (inB x2_L4 7) (self (x1_L4 + (z_seas x2_L4.toNatClampNeg)) (x2_L4 + 1)))
def fX3_seaOfAll_L4 (g : Nat) (z_hands : Int32) (z_seas : Nat → Int32) (n : Nat) : Int32 → Int32 → Option (Int32) := lp (fX3_seaOfAll_L4_b g z_hands z_seas) (fun _ _ => none) n
def fX3_seaOfAll (g : Nat) (z_hands : Int32) (z_seas : Nat → Int32) : Option (Int32) := bd1 (fX3_seaOfAll_L4 g z_hands z_seas g 0 0) fun t4 => (some t4)
set_option maxHeartbeats 4000000 in
set_option maxRecDepth 100000 in
theorem kX3_seaOfAll (l : Launch) (D : va_G) (cI cJ : ClassId) (sz g : Nat) (a_z a_z_cells a_z_kinds a_z_figures a_z_longings a_z_seas : Nat) (z_places : Int32) (z_hands : Int32) (z_aboard : Int32) (z_ship : Int32) (z_day : Int32) (z_rows : Int32) (z_columns : Int32) (z_seas : Nat → Int32) (r : Int32) (hf : fX3_seaOfAll g z_hands z_seas = some r) : Met l yX3_seaOfAll wsX3_seaOfAll rmX3_seaOfAll (va_Pc [.ref a_z] (sPc D (tyL cI cJ) [(a_z, .inr (3, [.ref a_z_cells, .int z_places, .ref a_z_kinds, .ref a_z_figures, .ref a_z_longings, .ref a_z_seas, .int z_hands, .int z_aboard, .int z_ship, .int z_day, .int z_rows, .int z_columns])), (a_z_seas, .inl (cI, 7, .inl z_seas))] sz)) (qI D (tyL cI cJ) [(a_z, .inr (3, [.ref a_z_cells, .int z_places, .ref a_z_kinds, .ref a_z_figures, .ref a_z_longings, .ref a_z_seas, .int z_hands, .int z_aboard, .int z_ship, .int z_day, .int z_rows, .int z_columns])), (a_z_seas, .inl (cI, 7, .inl z_seas))] sz [(a_z, .inr (3, [.ref a_z_cells, .int z_places, .ref a_z_kinds, .ref a_z_figures, .ref a_z_longings, .ref a_z_seas, .int z_hands, .int z_aboard, .int z_ship, .int z_day, .int z_rows, .int z_columns])), (a_z_seas, .inl (cI, 7, .inl z_seas))] r) 0 0 (va_A [(a_z, .inr (3, [.ref a_z_cells, .int z_places, .ref a_z_kinds, .ref a_z_figures, .ref a_z_longings, .ref a_z_seas, .int z_hands, .int z_aboard, .int z_ship, .int z_day, .int z_rows, .int z_columns])), (a_z_seas, .inl (cI, 7, .inl z_seas))] sz) := by
  refine st_i (cc := cX3_seaOfAll) (maxL := 3) (by decide) rfl (Nat.le_of_ble_eq_true rfl) ?_
  intro p e s m args below meth c A Q F hret0 H locs hP hS ls hl
  have F : Cx p s m args c cX3_seaOfAll 3 wsX3_seaOfAll RX3 D (tyL cI cJ) A := F
  have hx := F.1.1
  have hb := F.1.2.1
  have hown := F.1.2.2.2.1
  have hts := F.1.2.2.2.2
  have iX3 : ∀ w ∈ wsX30, w ∈ wsX3_seaOfAll := fun w h => (List.mem_cons_of_mem _ (List.mem_append_right _ h))
  have hret : ∀ (pc : Nat) (H : Heap) (locs : List Loc) (ls : Array Slot) (r' : Int32), some r' = some r → narrow .int (.int r') = .int r' → decode cX3_seaOfAll pc = .ok (.ireturn, 1) → WD D A [(a_z, .inr (3, [.ref a_z_cells, .int z_places, .ref a_z_kinds, .ref a_z_figures, .ref a_z_longings, .ref a_z_seas, .int z_hands, .int z_aboard, .int z_ship, .int z_day, .int z_rows, .int z_columns])), (a_z_seas, .inl (cI, 7, .inl z_seas))] H → va_S A s.heap H locs → W p l e rmX3_seaOfAll s m args below meth c H locs 0 0 Q (F0 m pc ls [.int r']) := by
    intro pc H locs ls r' h hn hd hP hS
    cases h
    exact hret0 pc H locs ls hn hd hP hS
  have L4 : ∀ (n : Nat) (x1_L4 : Int32) (x2_L4 : Int32) (tt0 : Int32) (H : Heap) (locs : List Loc) (ls : Array Slot), fX3_seaOfAll_L4 g z_hands z_seas n x1_L4 x2_L4 = some tt0 → WD D A [(a_z, .inr (3, [.ref a_z_cells, .int z_places, .ref a_z_kinds, .ref a_z_figures, .ref a_z_longings, .ref a_z_seas, .int z_hands, .int z_aboard, .int z_ship, .int z_day, .int z_rows, .int z_columns])), (a_z_seas, .inl (cI, 7, .inl z_seas))] H → va_S A s.heap H locs → lv_has ls 3 [(0, .ref a_z), (1, .int x1_L4), (2, .int x2_L4)] → (∀ (H : Heap) (locs : List Loc) (ls : Array Slot), WD D A [(a_z, .inr (3, [.ref a_z_cells, .int z_places, .ref a_z_kinds, .ref a_z_figures, .ref a_z_longings, .ref a_z_seas, .int z_hands, .int z_aboard, .int z_ship, .int z_day, .int z_rows, .int z_columns])), (a_z_seas, .inl (cI, 7, .inl z_seas))] H → va_S A s.heap H locs → lv_has ls 3 [(1, .int tt0)] → W p l e rmX3_seaOfAll s m args below meth c H locs 0 0 Q (F0 m 27 ls [])) → W p l e rmX3_seaOfAll s m args below meth c H locs 0 0 Q (F0 m 4 ls []) := by
    intro n
    induction n with
    | zero =>
      intro x1_L4 x2_L4 tt0 H locs ls h
      exact (no_some h).elim
    | succ n ih =>
      intro x1_L4 x2_L4 tt0 H locs ls h hP hS hl kE
      have h : fX3_seaOfAll_L4_b g z_hands z_seas (fX3_seaOfAll_L4 g z_hands z_seas n) x1_L4 x2_L4 = some tt0 := h
      unfold fX3_seaOfAll_L4_b at h
      refine lv_iload_n hx hb dX3_seaOfAll_4 rfl (lv_at hl 2 rfl) ?_
      refine lv_aload_n hx hb dX3_seaOfAll_5 rfl (lv_at hl 0 rfl) ?_
      refine gt_X3_31 F iX3 (List.mem_cons_of_mem _ (List.mem_append_left _ (List.mem_of_getElem? (i := 0) rfl))) hP 0 rfl dX3_seaOfAll_6 ?_
      refine lv_icmp_ge (tgt := 27) hx hb dX3_seaOfAll_9 (by decide) (fun hc2 => ?_) (fun hc2 => ?_)
      · have h := it_p hc2 h
        cases h
        exact kE H locs ls hP hS (lv_sub hl [1] rfl)
      · have h := it_n hc2 h
        refine lv_iload_n hx hb dX3_seaOfAll_12 rfl (lv_at hl 1 rfl) ?_
        refine lv_aload_n hx hb dX3_seaOfAll_13 rfl (lv_at hl 0 rfl) ?_
        refine gt_X3_24 F iX3 (List.mem_cons_of_mem _ (List.mem_append_left _ (List.mem_of_getElem? (i := 1) rfl))) hP 0 rfl dX3_seaOfAll_14 ?_
        refine lv_iload_n hx hb dX3_seaOfAll_17 rfl (lv_at hl 2 rfl) ?_
        obtain ⟨hg3, h⟩ := gd_e h
        refine r_ia F hP 1 rfl rfl hg3 dX3_seaOfAll_18 ?_
        refine lv_iadd hx hb dX3_seaOfAll_19 ?_
        refine lv_istore_n (lv' := [(1, .int (x1_L4 + (z_seas x2_L4.toNatClampNeg))), (0, .ref a_z), (2, .int x2_L4)]) hx hb dX3_seaOfAll_20 rfl hl (by decide) rfl (fun ls hl => ?_)
        refine lv_iinc (v := x2_L4 + 1) (lv' := [(2, .int (x2_L4 + 1)), (1, .int (x1_L4 + (z_seas x2_L4.toNatClampNeg))), (0, .ref a_z)]) hx hb dX3_seaOfAll_21 hl (k := 2) rfl rfl (by decide) rfl (fun ls hl => ?_)
        refine lv_goto (tgt := 4) hx hb dX3_seaOfAll_24 (by decide) ?_
        exact ih (x1_L4 + (z_seas x2_L4.toNatClampNeg)) (x2_L4 + 1) tt0 H locs ls h hP hS (lv_sub hl [2, 1, 0] rfl) kE
  have hl : lv_has ls 3 [(0, .ref a_z)] := hl
  have h := hf
  unfold fX3_seaOfAll at h
  refine lv_iconst (v := 0) hx hb dX3_seaOfAll_0 (by decide) ?_
  refine lv_istore_n (lv' := [(1, .int 0), (0, .ref a_z)]) hx hb dX3_seaOfAll_1 rfl hl (by decide) rfl (fun ls hl => ?_)
  refine lv_iconst (v := 0) hx hb dX3_seaOfAll_2 (by decide) ?_
  refine lv_istore_n (lv' := [(2, .int 0), (1, .int 0), (0, .ref a_z)]) hx hb dX3_seaOfAll_3 rfl hl (by decide) rfl (fun ls hl => ?_)
  obtain ⟨t4, hk5, h⟩ := bd1_e h
  refine L4 g 0 0 t4 H locs ls hk5 hP hS (lv_sub hl [2, 1, 0] rfl) (fun H locs ls hP hS hl => ?_)
  refine lv_iload_n hx hb dX3_seaOfAll_27 rfl (lv_at hl 0 rfl) ?_
  exact hret 28 H locs ls t4 h rfl dX3_seaOfAll_28 hP hS
