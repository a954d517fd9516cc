/-! ===== the law: its loop; laid by mkloop.py ===== -/
section PLL
variable {p : Program} {l : Launch} {e : Env} {s : State} {m : MethodId} {below : List Frame} {meth : Method} {c : Code} {Q : State → Prop} {D : va_G} {A : Nat → Prop} {cI cJ : ClassId} {b Lx : Nat} {xs : Nat → Int32} {a : Nat → Nat} {g : Nat}
set_option maxHeartbeats 4000000 in
set_option maxRecDepth 100000 in
theorem law_sw (hg : big g) (F : Cx p s m #[Value.ref b] c code 4 wsL_law RL D (tyL cI cJ) A) (hX : va_X b Lx xs s s.heap) (hbl : b < s.heap.size) (hbA : ¬ A b) {i : Int32} {k : Nat} (hi1 : vp_in (i + 1) Lx) (hi2 : vp_in (i + 2) Lx) (hi3 : vp_in (i + 3) Lx) (hi4 : vp_in (i + 4) Lx) {ls : Array Slot} (hl : lv_has ls 4 [(3, .int i), (0, .ref b), (1, .ref (a 0)), (2, .ref (a 28))]) {H : Heap} {locs : List Loc} (hI : LI D A cI cJ a H) (hS : va_S A s.heap H locs) (hk : k < 64) (ct : ∀ (H : Heap) (locs : List Loc), LI D A cI cJ a H → va_S A s.heap H locs → W p l e room_1 s m #[Value.ref b] below meth c H locs 37 721 Q (F0 m 1190 ls [])) : W p l e room_1 s m #[Value.ref b] below meth c H locs 37 721 Q (F0 m 32 ls [.int (nI k)]) := by
  have hx := F.1.1
  have hb := F.1.2.1
  by_cases e0 : k = 0
  · subst e0
    exact lv_tableIn (off := 176) (tgt := 208) hx hb dL_law_32 (by decide) (by decide) rfl (by decide) (lc_letter hg F hX hbl hbA hi1 hi2 hi3 hi4 hl hI hS ct)
  by_cases e1 : k = 1
  · subst e1
    exact lv_tableIn (off := 199) (tgt := 231) hx hb dL_law_32 (by decide) (by decide) rfl (by decide) (lc_sea hg F hX hbl hbA hi1 hi2 hi3 hi4 hl hI hS ct)
  by_cases e2 : k = 2
  · subst e2
    exact lv_tableIn (off := 212) (tgt := 244) hx hb dL_law_32 (by decide) (by decide) rfl (by decide) (lc_hand hg F hX hbl hbA hi1 hi2 hi3 hi4 hl hI hS ct)
  by_cases e3 : k = 3
  · subst e3
    exact lv_tableIn (off := 245) (tgt := 277) hx hb dL_law_32 (by decide) (by decide) rfl (by decide) (lc_place hg F hX hbl hbA hi1 hi2 hi3 hi4 hl hI hS ct)
  by_cases e4 : k = 4
  · subst e4
    exact lv_tableIn (off := 268) (tgt := 300) hx hb dL_law_32 (by decide) (by decide) rfl (by decide) (lc_leans hg F hX hbl hbA hi1 hi2 hi3 hi4 hl hI hS ct)
  by_cases e5 : k = 5
  · subst e5
    exact lv_tableIn (off := 291) (tgt := 323) hx hb dL_law_32 (by decide) (by decide) rfl (by decide) (lc_drops hg F hX hbl hbA hi1 hi2 hi3 hi4 hl hI hS ct)
  by_cases e6 : k = 6
  · subst e6
    exact lv_tableIn (off := 314) (tgt := 346) hx hb dL_law_32 (by decide) (by decide) rfl (by decide) (lc_boards hg F hX hbl hbA hi1 hi2 hi3 hi4 hl hI hS ct)
  by_cases e7 : k = 7
  · subst e7
    exact lv_tableIn (off := 337) (tgt := 369) hx hb dL_law_32 (by decide) (by decide) rfl (by decide) (lc_sails hg F hX hbl hbA hi1 hi2 hi3 hi4 hl hI hS ct)
  by_cases e8 : k = 8
  · subst e8
    exact lv_tableIn (off := 360) (tgt := 392) hx hb dL_law_32 (by decide) (by decide) rfl (by decide) (lc_misses hg F hX hbl hbA hi1 hi2 hi3 hi4 hl hI hS ct)
  by_cases e9 : k = 9
  · subst e9
    exact lv_tableIn (off := 393) (tgt := 425) hx hb dL_law_32 (by decide) (by decide) rfl (by decide) (lc_turn hg F hX hbl hbA hi1 hi2 hi3 hi4 hl hI hS ct)
  by_cases e10 : k = 10
  · subst e10
    exact lv_tableIn (off := 436) (tgt := 468) hx hb dL_law_32 (by decide) (by decide) rfl (by decide) (lc_days hg F hX hbl hbA hi1 hi2 hi3 hi4 hl hI hS ct)
  by_cases e11 : k = 11
  · subst e11
    exact lv_tableIn (off := 459) (tgt := 491) hx hb dL_law_32 (by decide) (by decide) rfl (by decide) (lc_needle hg F hX hbl hbA hi1 hi2 hi3 hi4 hl hI hS ct)
  by_cases e12 : k = 12
  · subst e12
    exact lv_tableIn (off := 472) (tgt := 504) hx hb dL_law_32 (by decide) (by decide) rfl (by decide) (lc_shipThen hg F hX hbl hbA hi1 hi2 hi3 hi4 hl hI hS ct)
  by_cases e13 : k = 13
  · subst e13
    exact lv_tableIn (off := 495) (tgt := 527) hx hb dL_law_32 (by decide) (by decide) rfl (by decide) (lc_needleThen hg F hX hbl hbA hi1 hi2 hi3 hi4 hl hI hS ct)
  by_cases e14 : k = 14
  · subst e14
    exact lv_tableIn (off := 518) (tgt := 550) hx hb dL_law_32 (by decide) (by decide) rfl (by decide) (lc_seaThen hg F hX hbl hbA hi1 hi2 hi3 hi4 hl hI hS ct)
  by_cases e15 : k = 15
  · subst e15
    exact lv_tableIn (off := 551) (tgt := 583) hx hb dL_law_32 (by decide) (by decide) rfl (by decide) (lc_comes hg F hX hbl hbA hi1 hi2 hi3 hi4 hl hI hS ct)
  by_cases e16 : k = 16
  · subst e16
    exact lv_tableIn (off := 574) (tgt := 606) hx hb dL_law_32 (by decide) (by decide) rfl (by decide) (lc_door hg F hX hbl hbA hi1 hi2 hi3 hi4 hl hI hS ct)
  by_cases e17 : k = 17
  · subst e17
    exact lv_tableIn (off := 597) (tgt := 629) hx hb dL_law_32 (by decide) (by decide) rfl (by decide) (lc_crew hg F hX hbl hbA hi1 hi2 hi3 hi4 hl hI hS ct)
  by_cases e18 : k = 18
  · subst e18
    exact lv_tableIn (off := 630) (tgt := 662) hx hb dL_law_32 (by decide) (by decide) rfl (by decide) (lc_ashore hg F hX hbl hbA hi1 hi2 hi3 hi4 hl hI hS ct)
  by_cases e19 : k = 19
  · subst e19
    exact lv_tableIn (off := 653) (tgt := 685) hx hb dL_law_32 (by decide) (by decide) rfl (by decide) (lc_letters hg F hX hbl hbA hi1 hi2 hi3 hi4 hl hI hS ct)
  by_cases e20 : k = 20
  · subst e20
    exact lv_tableIn (off := 686) (tgt := 718) hx hb dL_law_32 (by decide) (by decide) rfl (by decide) (lc_turners hg F hX hbl hbA hi1 hi2 hi3 hi4 hl hI hS ct)
  by_cases e21 : k = 21
  · subst e21
    exact lv_tableIn (off := 699) (tgt := 731) hx hb dL_law_32 (by decide) (by decide) rfl (by decide) (lc_pull hg F hX hbl hbA hi1 hi2 hi3 hi4 hl hI hS ct)
  by_cases e22 : k = 22
  · subst e22
    exact lv_tableIn (off := 722) (tgt := 754) hx hb dL_law_32 (by decide) (by decide) rfl (by decide) (lc_strongest hg F hX hbl hbA hi1 hi2 hi3 hi4 hl hI hS ct)
  by_cases e23 : k = 23
  · subst e23
    exact lv_tableIn (off := 735) (tgt := 767) hx hb dL_law_32 (by decide) (by decide) rfl (by decide) (lc_missed hg F hX hbl hbA hi1 hi2 hi3 hi4 hl hI hS ct)
  by_cases e24 : k = 24
  · subst e24
    exact lv_tableIn (off := 758) (tgt := 790) hx hb dL_law_32 (by decide) (by decide) rfl (by decide) (lc_opposed hg F hX hbl hbA hi1 hi2 hi3 hi4 hl hI hS ct)
  by_cases e25 : k = 25
  · subst e25
    exact lv_tableIn (off := 771) (tgt := 803) hx hb dL_law_32 (by decide) (by decide) rfl (by decide) (lc_sign hg F hX hbl hbA hi1 hi2 hi3 hi4 hl hI hS ct)
  by_cases e26 : k = 26
  · subst e26
    exact lv_tableIn (off := 804) (tgt := 836) hx hb dL_law_32 (by decide) (by decide) rfl (by decide) (lc_home hg F hX hbl hbA hi1 hi2 hi3 hi4 hl hI hS ct)
  by_cases e27 : k = 27
  · subst e27
    exact lv_tableIn (off := 827) (tgt := 859) hx hb dL_law_32 (by decide) (by decide) rfl (by decide) (lc_nearest hg F hX hbl hbA hi1 hi2 hi3 hi4 hl hI hS ct)
  by_cases e28 : k = 28
  · subst e28
    exact lv_tableIn (off := 840) (tgt := 872) hx hb dL_law_32 (by decide) (by decide) rfl (by decide) (lc_way hg F hX hbl hbA hi1 hi2 hi3 hi4 hl hI hS ct)
  by_cases e29 : k = 29
  · subst e29
    exact lv_tableIn (off := 863) (tgt := 895) hx hb dL_law_32 (by decide) (by decide) rfl (by decide) (lc_two hg F hX hbl hbA hi1 hi2 hi3 hi4 hl hI hS ct)
  by_cases e30 : k = 30
  · subst e30
    exact lv_tableIn (off := 906) (tgt := 938) hx hb dL_law_32 (by decide) (by decide) rfl (by decide) (lc_storm hg F hX hbl hbA hi1 hi2 hi3 hi4 hl hI hS ct)
  by_cases e31 : k = 31
  · subst e31
    exact lv_tableIn (off := 960) (tgt := 992) hx hb dL_law_32 (by decide) (by decide) rfl (by decide) (lc_mean hg F hX hbl hbA hi1 hi2 hi3 hi4 hl hI hS ct)
  by_cases e32 : k = 32
  · subst e32
    exact lv_tableIn (off := 984) (tgt := 1016) hx hb dL_law_32 (by decide) (by decide) rfl (by decide) (lc_log hg F hX hbl hbA hi1 hi2 hi3 hi4 hl hI hS ct)
  by_cases e33 : k = 33
  · subst e33
    exact lv_tableIn (off := 1017) (tgt := 1049) hx hb dL_law_32 (by decide) (by decide) rfl (by decide) (lc_row hg F hX hbl hbA hi1 hi2 hi3 hi4 hl hI hS ct)
  by_cases e34 : k = 34
  · subst e34
    exact lv_tableIn (off := 1040) (tgt := 1072) hx hb dL_law_32 (by decide) (by decide) rfl (by decide) (lc_judge hg F hX hbl hbA hi1 hi2 hi3 hi4 hl hI hS ct)
  by_cases e35 : k = 35
  · subst e35
    exact lv_tableIn (off := 1053) (tgt := 1085) hx hb dL_law_32 (by decide) (by decide) rfl (by decide) (lc_clear hg F hX hbl hbA hi1 hi2 hi3 hi4 hl hI hS ct)
  by_cases e36 : k = 36
  · subst e36
    exact lv_tableIn (off := 1066) (tgt := 1098) hx hb dL_law_32 (by decide) (by decide) rfl (by decide) (lc_lots hg F hX hbl hbA hi1 hi2 hi3 hi4 hl hI hS ct)
  by_cases e37 : k = 37
  · subst e37
    exact lv_tableIn (off := 1109) (tgt := 1141) hx hb dL_law_32 (by decide) (by decide) rfl (by decide) (lc_image hg F hX hbl hbA hi1 hi2 hi3 hi4 hl hI hS ct)
  by_cases e38 : k = 38
  · subst e38
    exact lv_tableIn (off := 1122) (tgt := 1154) hx hb dL_law_32 (by decide) (by decide) rfl (by decide) (lc_on hg F hX hbl hbA hi1 hi2 hi3 hi4 hl hI hS ct)
  by_cases e39 : k = 39
  · subst e39
    exact lv_tableIn (off := 1135) (tgt := 1167) hx hb dL_law_32 (by decide) (by decide) rfl (by decide) (lc_count hg F hX hbl hbA hi1 hi2 hi3 hi4 hl hI hS ct)
  refine lv_tableOut (tgt := 1190) hx hb dL_law_32 (Or.inr ?_) (by decide) (ct H locs hI hS)
  rw [nI_toInt (by omega)]
  omega
set_option maxHeartbeats 4000000 in
theorem law_loop (hg : big g) (F : Cx p s m #[Value.ref b] c code 4 wsL_law RL D (tyL cI cJ) A) (hLx : Lx ≤ 2560) (hX : va_X b Lx xs s s.heap) (hbl : b < s.heap.size) (hbA : ¬ A b) (hret : ∀ (H : Heap) (locs : List Loc) (ls : Array Slot), va_S A s.heap H locs → W p l e room_1 s m #[Value.ref b] below meth c H locs 37 721 Q (F0 m 1196 ls [])) :
    ∀ (n j : Nat), Lx < j + 5 * n → j ≤ 4000 → ∀ (ls : Array Slot) (H : Heap) (locs : List Loc), lv_has ls 4 [(3, .int (nI j)), (0, .ref b), (1, .ref (a 0)), (2, .ref (a 28))] → LI D A cI cJ a H → va_S A s.heap H locs → W p l e room_1 s m #[Value.ref b] below meth c H locs 37 721 Q (F0 m 18 ls []) := by
  have hx := F.1.1
  have hb := F.1.2.1
  intro n
  induction n with
  | zero =>
    intro j hj hj2 ls H locs hl hI hS
    refine lv_iload_n hx hb dL_law_18 rfl (lv_at hl 0 rfl) ?_
    refine lv_aload_n hx hb dL_law_19 rfl (lv_at hl 1 rfl) ?_
    refine va_slen hx hb hX hbl hbA hS dL_law_20 ?_
    refine lv_iconst (v := 5) hx hb dL_law_21 (by decide) ?_
    refine lv_isub hx hb dL_law_22 ?_
    refine lv_icmp_gt (tgt := 1196) hx hb dL_law_23 (by decide) (fun _ => hret H locs ls hS) (fun h => ?_)
    exfalso
    refine h (Int32.lt_iff_toInt_lt.mpr ?_)
    rw [show (Int32.ofNat Lx - 5 : Int32) = nI Lx - nI 5 from rfl, pk_sub_toInt (by omega) (by omega), nI_toInt (by omega)]
    omega
  | succ n ih =>
    intro j hj hj2 ls H locs hl hI hS
    refine lv_iload_n hx hb dL_law_18 rfl (lv_at hl 0 rfl) ?_
    refine lv_aload_n hx hb dL_law_19 rfl (lv_at hl 1 rfl) ?_
    refine va_slen hx hb hX hbl hbA hS dL_law_20 ?_
    refine lv_iconst (v := 5) hx hb dL_law_21 (by decide) ?_
    refine lv_isub hx hb dL_law_22 ?_
    refine lv_icmp_gt (tgt := 1196) hx hb dL_law_23 (by decide) (fun _ => hret H locs ls hS) (fun h => ?_)
    have hj5 : j + 5 ≤ Lx := by
      have h1 : ¬ (Int32.ofNat Lx - 5 : Int32).toInt < (nI j).toInt := fun q => h (Int32.lt_iff_toInt_lt.mpr q)
      rw [show (Int32.ofNat Lx - 5 : Int32) = nI Lx - nI 5 from rfl, pk_sub_toInt (by omega) (by omega), nI_toInt (by omega)] at h1
      omega
    have hin : ∀ q : Nat, q < 5 → vp_in (nI (j + q)) Lx := fun q hq => vp_in_nI (by omega) (by omega)
    have h0 : vp_in (nI j) Lx := vp_in_nI (by omega) (by omega)
    have h1 : vp_in (nI j + 1) Lx := by rw [show (nI j + 1 : Int32) = nI (j + 1) from nI_add j 1]; exact hin 1 (by omega)
    have h2 : vp_in (nI j + 2) Lx := by rw [show (nI j + 2 : Int32) = nI (j + 2) from nI_add j 2]; exact hin 2 (by omega)
    have h3 : vp_in (nI j + 3) Lx := by rw [show (nI j + 3 : Int32) = nI (j + 3) from nI_add j 3]; exact hin 3 (by omega)
    have h4 : vp_in (nI j + 4) Lx := by rw [show (nI j + 4 : Int32) = nI (j + 4) from nI_add j 4]; exact hin 4 (by omega)
    refine lv_aload_n hx hb dL_law_26 rfl (lv_at hl 1 rfl) ?_
    refine lv_iload_n hx hb dL_law_27 rfl (lv_at hl 0 rfl) ?_
    refine va_sld hx hb hX hbl hbA hS h0 dL_law_28 ?_
    refine lv_bipush (v := 63) hx hb dL_law_29 (by decide) ?_
    refine lv_iand hx hb dL_law_31 ?_
    obtain ⟨k, hk, ek⟩ := pk_andE (xs (nI j).toNatClampNeg) (m := 63) 6 (by decide)
    show W p l e room_1 s m #[Value.ref b] below meth c H locs 37 721 Q (F0 m 32 ls [.int (xs (nI j).toNatClampNeg &&& 63)])
    rw [ek]
    refine law_sw (i := nI j) hg F hX hbl hbA h1 h2 h3 h4 hl hI hS hk (fun H locs hI hS => ?_)
    refine lv_iinc (v := nI (j + 5)) (lv' := [(3, .int (nI (j + 5))), (0, .ref b), (1, .ref (a 0)), (2, .ref (a 28))]) hx hb dL_law_1190 hl (k := 0) rfl (nI_add j 5) (by decide) rfl (fun ls hl => ?_)
    refine lv_goto (tgt := 18) hx hb dL_law_1193 (by decide) ?_
    exact ih (j + 5) (by omega) (by omega) ls H locs hl hI hS
end PLL
