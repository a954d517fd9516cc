/-! ===== the law: its calls (8); laid by mklaw.py ===== -/
section PLW
variable {p : Program} {l : Launch} {e : Env} {s : State} {m : MethodId} {below : List Frame} {meth : Method} {c : Code} {H : Heap} {locs : List Loc} {Q : State → Prop} {ls : Array Slot} {D : va_G} {A : Nat → Prop} {cI cJ : ClassId} {b Lx : Nat} {xs : Nat → Int32} {a : Nat → Nat} {i : Int32} {g : Nat}
set_option maxHeartbeats 4000000 in
set_option maxRecDepth 100000 in
theorem lc_clear (hg : big g) (F : Cx p s m #[Value.ref b] c code 4 wsL_law RL D (tyL cI cJ) A) (hX : va_X b Lx xs s s.heap) (hbl : b < s.heap.size) (hbA : ¬ A b) (hi1 : vp_in (i + 1) Lx) (hi2 : vp_in (i + 2) Lx) (hi3 : vp_in (i + 3) Lx) (hi4 : vp_in (i + 4) Lx) (hl : lv_has ls 4 [(3, .int i), (0, .ref b), (1, .ref (a 0)), (2, .ref (a 28))]) (hI : LI D A cI cJ a H) (hS : va_S A s.heap H locs) (ct : ∀ (H : Heap) (locs : List Loc), LI D A cI cJ a H → va_S A s.heap H locs → W p l e room_1 s m #[Value.ref b] below meth c H locs 37 721 Q (F0 m 1190 ls [])) : W p l e room_1 s m #[Value.ref b] below meth c H locs 37 721 Q (F0 m 1085 ls []) := by
  have hx := F.1.1
  have hb := F.1.2.1
  have hts := F.1.2.2.2.2
  obtain ⟨t, u, im, wa, L, K, hi, np, nh, na, ns, nd, nx, ny, tp, th, ta, ts, td, tx, ty, kp, kh, ka, ks, kd, kx, ky, ld, rd, sd, nc, nk, nf, nl, ne, tc, tk, tf, tl, te, kc, kk, kf, kl, ke, sg, nu, en, rf, n3, wA, wC, wN, w, ht, R, T, hK, hu, him45, hwa, h01, him, hP⟩ := hI
  obtain ⟨r9, h4, h5⟩ := oClear g K
  refine lv_aload_n hx hb dL_law_1085 rfl (lv_at hl 2 rfl) ?_
  refine cV_i (As := []) (rest := []) F (kX4_clear l D cI cJ H.size g (a 0) (a 1) (a 7) (a 13) (a 19) (a 21) (a 24) (a 25) (a 26) (a 27) hi (nI K)  _ _ h4) (cwV 0 hts gL_law_X4_clear rfl rfl rfl eVX4_clear ⟨Nat.le_of_ble_eq_true rfl, Nat.le_of_ble_eq_true rfl⟩) [0] hP hS (by decide) rfl rfl 0 rfl rfl rfl hl.1 (Nat.le_of_ble_eq_true rfl) ⟨Nat.le_refl _, Nat.le_refl _⟩ rfl dL_law_1086 (fun H locs hP hS => ?_)
  have hP : WD D A (wl cI cJ a hi (nI 0) np nh na ns nd nx ny nc nk nf nl ne tp th ta ts td tx ty tc tk tf tl te kp kh ka ks kd kx ky kc kk kf kl ke (nI L) sg wA wC wN ld nu en rf (rw1 t) (rw1 u) (rw1 im) (rw1 wa) hi sg nu rf (nI L) (nI K) rd n3 sd) H := hP
  refine lv_aload_n hx hb dL_law_1089 rfl (lv_at hl 3 rfl) ?_
  refine cV_i (As := []) (rest := [.int r9]) F (kX5_clear l D cI cJ H.size g (a 28) (a 29) (a 30) (a 31) (a 32) (a 33) (a 34) (a 35) (a 36) hi (nI L) (nI K) rd sd  _ _ h5) (cwV 0 hts gL_law_X5_clear rfl rfl rfl eVX5_clear ⟨Nat.le_of_ble_eq_true rfl, Nat.le_of_ble_eq_true rfl⟩) [28] hP hS (by decide) rfl rfl 0 rfl rfl rfl hl.1 (Nat.le_of_ble_eq_true rfl) ⟨Nat.le_refl _, Nat.le_refl _⟩ rfl dL_law_1090 (fun H locs hP hS => ?_)
  have hP : WD D A (wl cI cJ a hi (nI 0) np nh na ns nd nx ny nc nk nf nl ne tp th ta ts td tx ty tc tk tf tl te kp kh ka ks kd kx ky kc kk kf kl ke (nI L) sg wA wC wN ld nu en rf (rw1 t) (rw1 u) (rw1 im) (rw1 wa) hi sg nu rf (nI L) (nI 0) rd n3 sd) H := hP
  refine lv_icmp_eq (tgt := 1190) hx hb dL_law_1093 (by decide) (fun _ => ?_) (fun h => absurd rfl h)
  exact ct H locs ⟨t, u, im, wa, L, 0, hi, np, nh, na, ns, nd, nx, ny, tp, th, ta, ts, td, tx, ty, kp, kh, ka, ks, kd, kx, ky, ld, rd, sd, nc, nk, nf, nl, ne, tc, tk, tf, tl, te, kc, kk, kf, kl, ke, sg, nu, en, rf, n3, wA, wC, wN, w, ht, R, T, (Nat.zero_le _), hu, him45, hwa, h01, him, hP⟩ hS
set_option maxHeartbeats 4000000 in
set_option maxRecDepth 100000 in
theorem lc_lots (hg : big g) (F : Cx p s m #[Value.ref b] c code 4 wsL_law RL D (tyL cI cJ) A) (hX : va_X b Lx xs s s.heap) (hbl : b < s.heap.size) (hbA : ¬ A b) (hi1 : vp_in (i + 1) Lx) (hi2 : vp_in (i + 2) Lx) (hi3 : vp_in (i + 3) Lx) (hi4 : vp_in (i + 4) Lx) (hl : lv_has ls 4 [(3, .int i), (0, .ref b), (1, .ref (a 0)), (2, .ref (a 28))]) (hI : LI D A cI cJ a H) (hS : va_S A s.heap H locs) (ct : ∀ (H : Heap) (locs : List Loc), LI D A cI cJ a H → va_S A s.heap H locs → W p l e room_1 s m #[Value.ref b] below meth c H locs 37 721 Q (F0 m 1190 ls [])) : W p l e room_1 s m #[Value.ref b] below meth c H locs 37 721 Q (F0 m 1098 ls []) := by
  have hx := F.1.1
  have hb := F.1.2.1
  have hts := F.1.2.2.2.2
  obtain ⟨t, u, im, wa, L, K, hi, np, nh, na, ns, nd, nx, ny, tp, th, ta, ts, td, tx, ty, kp, kh, ka, ks, kd, kx, ky, ld, rd, sd, nc, nk, nf, nl, ne, tc, tk, tf, tl, te, kc, kk, kf, kl, ke, sg, nu, en, rf, n3, wA, wC, wN, w, ht, R, T, hK, hu, him45, hwa, h01, him, hP⟩ := hI
  obtain ⟨r9, rf9, u9, ls9, ms9, r19, r29, r39, r49, r59, r69, r79, r89, r99, r109, r119, r129, h4, h5, hu9⟩ := oLots (g := g) w hg R rf (xs (i + 1).toNatClampNeg) (xs (i + 2).toNatClampNeg) (xs (i + 3).toNatClampNeg) hu ld sd tp th ta ts td tx ty tc tk tf tl te
  refine lv_aload_n hx hb dL_law_1098 rfl (lv_at hl 2 rfl) ?_
  refine lv_aload_n hx hb dL_law_1099 rfl (lv_at hl 1 rfl) ?_
  refine lv_iload_n hx hb dL_law_1100 rfl (lv_at hl 0 rfl) ?_
  refine lv_iconst (v := 1) hx hb dL_law_1101 (by decide) ?_
  refine lv_iadd hx hb dL_law_1102 ?_
  refine va_sld hx hb hX hbl hbA hS hi1 dL_law_1103 ?_
  refine lv_aload_n hx hb dL_law_1104 rfl (lv_at hl 1 rfl) ?_
  refine lv_iload_n hx hb dL_law_1105 rfl (lv_at hl 0 rfl) ?_
  refine lv_iconst (v := 2) hx hb dL_law_1106 (by decide) ?_
  refine lv_iadd hx hb dL_law_1107 ?_
  refine va_sld hx hb hX hbl hbA hS hi2 dL_law_1108 ?_
  refine lv_aload_n hx hb dL_law_1109 rfl (lv_at hl 1 rfl) ?_
  refine lv_iload_n hx hb dL_law_1110 rfl (lv_at hl 0 rfl) ?_
  refine lv_iconst (v := 3) hx hb dL_law_1111 (by decide) ?_
  refine lv_iadd hx hb dL_law_1112 ?_
  refine va_sld hx hb hX hbl hbA hS hi3 dL_law_1113 ?_
  refine cV_i (As := [.int (xs (i + 1).toNatClampNeg), .int (xs (i + 2).toNatClampNeg), .int (xs (i + 3).toNatClampNeg)]) (rest := []) F (kX4_lots l D cI cJ H.size g (a 0) (a 1) (a 7) (a 13) (a 19) (a 21) (a 24) (a 25) (a 26) (a 27) (a 2) (a 3) (a 4) (a 5) (a 6) (a 8) (a 9) (a 10) (a 11) (a 12) hi (nI K) np nh na ns nd nx ny nc nk nf nl ne tp th ta ts td tx ty tc tk tf tl te ld rf (xs (i + 1).toNatClampNeg) (xs (i + 2).toNatClampNeg) (xs (i + 3).toNatClampNeg) _ _ _ _ _ _ _ _ _ _ _ _ _ _ _ h4) (cwV 3 hts gL_law_X4_lots rfl rfl rfl eVX4_lots ⟨Nat.le_of_ble_eq_true rfl, Nat.le_of_ble_eq_true rfl⟩) [0, 1, 2, 3, 4, 5, 6, 7, 8, 9, 10, 11, 12, 24, 27] hP hS (by decide) rfl rfl 0 rfl rfl rfl hl.1 (Nat.le_of_ble_eq_true rfl) ⟨Nat.le_refl _, Nat.le_refl _⟩ rfl dL_law_1114 (fun H locs hP hS => ?_)
  have hP : WD D A (wl cI cJ a hi (nI K) np nh na ns nd nx ny nc nk nf nl ne r19 r29 r39 r49 r59 r69 r79 r89 r99 r109 r119 r129 kp kh ka ks kd kx ky kc kk kf kl ke (nI L) sg wA wC wN ls9 nu en rf9 (rw1 t) (rw1 u) (rw1 im) (rw1 wa) hi sg nu rf (nI L) (nI K) rd n3 sd) H := hP
  refine lv_aload_n hx hb dL_law_1117 rfl (lv_at hl 3 rfl) ?_
  refine lv_aload_n hx hb dL_law_1118 rfl (lv_at hl 1 rfl) ?_
  refine lv_iload_n hx hb dL_law_1119 rfl (lv_at hl 0 rfl) ?_
  refine lv_iconst (v := 1) hx hb dL_law_1120 (by decide) ?_
  refine lv_iadd hx hb dL_law_1121 ?_
  refine va_sld hx hb hX hbl hbA hS hi1 dL_law_1122 ?_
  refine lv_aload_n hx hb dL_law_1123 rfl (lv_at hl 1 rfl) ?_
  refine lv_iload_n hx hb dL_law_1124 rfl (lv_at hl 0 rfl) ?_
  refine lv_iconst (v := 2) hx hb dL_law_1125 (by decide) ?_
  refine lv_iadd hx hb dL_law_1126 ?_
  refine va_sld hx hb hX hbl hbA hS hi2 dL_law_1127 ?_
  refine lv_aload_n hx hb dL_law_1128 rfl (lv_at hl 1 rfl) ?_
  refine lv_iload_n hx hb dL_law_1129 rfl (lv_at hl 0 rfl) ?_
  refine lv_iconst (v := 3) hx hb dL_law_1130 (by decide) ?_
  refine lv_iadd hx hb dL_law_1131 ?_
  refine va_sld hx hb hX hbl hbA hS hi3 dL_law_1132 ?_
  refine cV_i (As := [.int (xs (i + 1).toNatClampNeg), .int (xs (i + 2).toNatClampNeg), .int (xs (i + 3).toNatClampNeg)]) (rest := [.int r9]) F (kX5_lots l D cI cJ H.size g (a 28) (a 29) (a 30) (a 31) (a 32) (a 33) (a 34) (a 35) (a 36) hi (nI L) (nI K) rd sd (rw1 t) (rw1 u) rf (xs (i + 1).toNatClampNeg) (xs (i + 2).toNatClampNeg) (xs (i + 3).toNatClampNeg) _ _ _ _ h5) (cwV 3 hts gL_law_X5_lots rfl rfl rfl eVX5_lots ⟨Nat.le_of_ble_eq_true rfl, Nat.le_of_ble_eq_true rfl⟩) [28, 29, 30, 35] hP hS (by decide) rfl rfl 0 rfl rfl rfl hl.1 (Nat.le_of_ble_eq_true rfl) ⟨Nat.le_refl _, Nat.le_refl _⟩ rfl dL_law_1133 (fun H locs hP hS => ?_)
  have hP : WD D A (wl cI cJ a hi (nI K) np nh na ns nd nx ny nc nk nf nl ne r19 r29 r39 r49 r59 r69 r79 r89 r99 r109 r119 r129 kp kh ka ks kd kx ky kc kk kf kl ke (nI L) sg wA wC wN ls9 nu en rf9 (rw1 t) (rw1 u9) (rw1 im) (rw1 wa) hi sg nu rf9 (nI L) (nI K) rd n3 ms9) H := hP
  refine lv_icmp_eq (tgt := 1190) hx hb dL_law_1136 (by decide) (fun _ => ?_) (fun h => absurd rfl h)
  exact ct H locs ⟨t, u9, im, wa, L, K, hi, np, nh, na, ns, nd, nx, ny, r19, r29, r39, r49, r59, r69, r79, kp, kh, ka, ks, kd, kx, ky, ls9, rd, ms9, nc, nk, nf, nl, ne, r89, r99, r109, r119, r129, kc, kk, kf, kl, ke, sg, nu, en, rf9, n3, wA, wC, wN, w, ht, R, T, hK, hu9, him45, hwa, h01, him, hP⟩ hS
set_option maxHeartbeats 4000000 in
set_option maxRecDepth 100000 in
theorem lc_image (hg : big g) (F : Cx p s m #[Value.ref b] c code 4 wsL_law RL D (tyL cI cJ) A) (hX : va_X b Lx xs s s.heap) (hbl : b < s.heap.size) (hbA : ¬ A b) (hi1 : vp_in (i + 1) Lx) (hi2 : vp_in (i + 2) Lx) (hi3 : vp_in (i + 3) Lx) (hi4 : vp_in (i + 4) Lx) (hl : lv_has ls 4 [(3, .int i), (0, .ref b), (1, .ref (a 0)), (2, .ref (a 28))]) (hI : LI D A cI cJ a H) (hS : va_S A s.heap H locs) (ct : ∀ (H : Heap) (locs : List Loc), LI D A cI cJ a H → va_S A s.heap H locs → W p l e room_1 s m #[Value.ref b] below meth c H locs 37 721 Q (F0 m 1190 ls [])) : W p l e room_1 s m #[Value.ref b] below meth c H locs 37 721 Q (F0 m 1141 ls []) := by
  have hx := F.1.1
  have hb := F.1.2.1
  have hts := F.1.2.2.2.2
  obtain ⟨t, u, im, wa, L, K, hi, np, nh, na, ns, nd, nx, ny, tp, th, ta, ts, td, tx, ty, kp, kh, ka, ks, kd, kx, ky, ld, rd, sd, nc, nk, nf, nl, ne, tc, tk, tf, tl, te, kc, kk, kf, kl, ke, sg, nu, en, rf, n3, wA, wC, wN, w, ht, R, T, hK, hu, him45, hwa, h01, him, hP⟩ := hI
  obtain ⟨r9, c9, k9, f9, l9, se9, h4, h5, R9⟩ := oImage (g := g) w hg R kc kk kf kl ke him45
  refine lv_aload_n hx hb dL_law_1141 rfl (lv_at hl 2 rfl) ?_
  refine cV_i (As := []) (rest := []) F (kX4_image l D cI cJ H.size g (a 0) (a 1) (a 7) (a 13) (a 19) (a 21) (a 24) (a 25) (a 26) (a 27) (a 2) (a 3) (a 4) (a 5) (a 6) (a 14) (a 15) (a 16) (a 17) (a 18) hi (nI K) np nh na ns nd nx ny nc nk nf nl ne kp kh ka ks kd kx ky kc kk kf kl ke  _ _ _ _ _ _ _ _ _ _ _ _ h4) (cwV 0 hts gL_law_X4_image rfl rfl rfl eVX4_image ⟨Nat.le_of_ble_eq_true rfl, Nat.le_of_ble_eq_true rfl⟩) [0, 1, 2, 3, 4, 5, 6, 13, 14, 15, 16, 17, 18] hP hS (by decide) rfl rfl 0 rfl rfl rfl hl.1 (Nat.le_of_ble_eq_true rfl) ⟨Nat.le_refl _, Nat.le_refl _⟩ rfl dL_law_1142 (fun H locs hP hS => ?_)
  have hP : WD D A (wl cI cJ a 1 (nI K) np nh na ns nd nx ny nc nk nf nl ne tp th ta ts td tx ty tc tk tf tl te np nh na ns nd kx ky c9 k9 f9 l9 se9 (nI L) sg wA wC wN ld nu en rf (rw1 t) (rw1 u) (rw1 im) (rw1 wa) hi sg nu rf (nI L) (nI K) rd n3 sd) H := hP
  refine lv_aload_n hx hb dL_law_1145 rfl (lv_at hl 3 rfl) ?_
  refine cV_i (As := []) (rest := [.int r9]) F (kX5_image l D cI cJ H.size g (a 28) (a 29) (a 30) (a 31) (a 32) (a 33) (a 34) (a 35) (a 36) hi (nI L) (nI K) rd sd (rw1 t) (rw1 im)  _ _ _ h5) (cwV 0 hts gL_law_X5_image rfl rfl rfl eVX5_image ⟨Nat.le_of_ble_eq_true rfl, Nat.le_of_ble_eq_true rfl⟩) [28, 29, 31] hP hS (by decide) rfl rfl 0 rfl rfl rfl hl.1 (Nat.le_of_ble_eq_true rfl) ⟨Nat.le_refl _, Nat.le_refl _⟩ rfl dL_law_1146 (fun H locs hP hS => ?_)
  have hP : WD D A (wl cI cJ a 1 (nI K) np nh na ns nd nx ny nc nk nf nl ne tp th ta ts td tx ty tc tk tf tl te np nh na ns nd kx ky c9 k9 f9 l9 se9 (nI L) sg wA wC wN ld nu en rf (rw1 t) (rw1 u) (rw1 t) (rw1 wa) 1 sg nu rf (nI L) (nI K) rd n3 sd) H := hP
  refine lv_icmp_eq (tgt := 1190) hx hb dL_law_1149 (by decide) (fun _ => ?_) (fun h => absurd rfl h)
  exact ct H locs ⟨t, u, t, wa, L, K, 1, np, nh, na, ns, nd, nx, ny, tp, th, ta, ts, td, tx, ty, np, nh, na, ns, nd, kx, ky, ld, rd, sd, nc, nk, nf, nl, ne, tc, tk, tf, tl, te, c9, k9, f9, l9, se9, sg, nu, en, rf, n3, wA, wC, wN, w, ht, R, T, hK, hu, w.z, hwa, (Or.inr rfl), (fun _ => ⟨w, ht, R9⟩), hP⟩ hS
set_option maxHeartbeats 4000000 in
set_option maxRecDepth 100000 in
theorem lc_on (hg : big g) (F : Cx p s m #[Value.ref b] c code 4 wsL_law RL D (tyL cI cJ) A) (hX : va_X b Lx xs s s.heap) (hbl : b < s.heap.size) (hbA : ¬ A b) (hi1 : vp_in (i + 1) Lx) (hi2 : vp_in (i + 2) Lx) (hi3 : vp_in (i + 3) Lx) (hi4 : vp_in (i + 4) Lx) (hl : lv_has ls 4 [(3, .int i), (0, .ref b), (1, .ref (a 0)), (2, .ref (a 28))]) (hI : LI D A cI cJ a H) (hS : va_S A s.heap H locs) (ct : ∀ (H : Heap) (locs : List Loc), LI D A cI cJ a H → va_S A s.heap H locs → W p l e room_1 s m #[Value.ref b] below meth c H locs 37 721 Q (F0 m 1190 ls [])) : W p l e room_1 s m #[Value.ref b] below meth c H locs 37 721 Q (F0 m 1154 ls []) := by
  have hx := F.1.1
  have hb := F.1.2.1
  have hts := F.1.2.2.2.2
  obtain ⟨t, u, im, wa, L, K, hi, np, nh, na, ns, nd, nx, ny, tp, th, ta, ts, td, tx, ty, kp, kh, ka, ks, kd, kx, ky, ld, rd, sd, nc, nk, nf, nl, ne, tc, tk, tf, tl, te, kc, kk, kf, kl, ke, sg, nu, en, rf, n3, wA, wC, wN, w, ht, R, T, hK, hu, him45, hwa, h01, him, hP⟩ := hI
  obtain ⟨r9, t9, rf9, o19, o29, o39, o49, o59, o69, o79, o89, o99, o109, h4, h5, w9, hor9, R9⟩ := oOn (g := g) hg w h01 (fun h => ⟨(him h).1, (him h).2.2⟩) R rf
  refine lv_aload_n hx hb dL_law_1154 rfl (lv_at hl 2 rfl) ?_
  refine cV_i (As := []) (rest := []) F (kX4_on l D cI cJ H.size g (a 0) (a 1) (a 7) (a 13) (a 19) (a 21) (a 24) (a 25) (a 26) (a 27) (a 2) (a 3) (a 4) (a 5) (a 6) (a 14) (a 15) (a 16) (a 17) (a 18) hi (nI K) np nh na ns nd nx ny nc nk nf nl ne kp kh ka ks kd kx ky kc kk kf kl ke rf  _ _ _ _ _ _ _ _ _ _ _ _ h4) (cwV 0 hts gL_law_X4_on rfl rfl rfl eVX4_on ⟨Nat.le_of_ble_eq_true rfl, Nat.le_of_ble_eq_true rfl⟩) [0, 1, 2, 3, 4, 5, 6, 13, 14, 15, 16, 17, 18, 27] hP hS (by decide) rfl rfl 0 rfl rfl rfl hl.1 (Nat.le_of_ble_eq_true rfl) ⟨Nat.le_refl _, Nat.le_refl _⟩ rfl dL_law_1155 (fun H locs hP hS => ?_)
  have hP : WD D A (wl cI cJ a hi (nI K) o19 o29 o39 o49 o59 nx ny o69 o79 o89 o99 o109 tp th ta ts td tx ty tc tk tf tl te kp kh ka ks kd kx ky kc kk kf kl ke (nI L) sg wA wC wN ld nu en rf9 (rw1 t) (rw1 u) (rw1 im) (rw1 wa) hi sg nu rf (nI L) (nI K) rd n3 sd) H := hP
  refine lv_aload_n hx hb dL_law_1158 rfl (lv_at hl 3 rfl) ?_
  refine cV_i (As := []) (rest := [.int r9]) F (kX5_on l D cI cJ H.size g (a 28) (a 29) (a 30) (a 31) (a 32) (a 33) (a 34) (a 35) (a 36) hi (nI L) (nI K) rd sd (rw1 t) (rw1 im) rf  _ _ _ h5) (cwV 0 hts gL_law_X5_on rfl rfl rfl eVX5_on ⟨Nat.le_of_ble_eq_true rfl, Nat.le_of_ble_eq_true rfl⟩) [28, 29, 31, 35] hP hS (by decide) rfl rfl 0 rfl rfl rfl hl.1 (Nat.le_of_ble_eq_true rfl) ⟨Nat.le_refl _, Nat.le_refl _⟩ rfl dL_law_1159 (fun H locs hP hS => ?_)
  have hP : WD D A (wl cI cJ a hi (nI K) o19 o29 o39 o49 o59 nx ny o69 o79 o89 o99 o109 tp th ta ts td tx ty tc tk tf tl te kp kh ka ks kd kx ky kc kk kf kl ke (nI L) sg wA wC wN ld nu en rf9 (rw1 t9) (rw1 u) (rw1 im) (rw1 wa) hi sg nu rf9 (nI L) (nI K) rd n3 sd) H := hP
  refine lv_icmp_eq (tgt := 1190) hx hb dL_law_1162 (by decide) (fun _ => ?_) (fun h => absurd rfl h)
  exact ct H locs ⟨t9, u, im, wa, L, K, hi, o19, o29, o39, o49, o59, nx, ny, tp, th, ta, ts, td, tx, ty, kp, kh, ka, ks, kd, kx, ky, ld, rd, sd, o69, o79, o89, o99, o109, tc, tk, tf, tl, te, kc, kk, kf, kl, ke, sg, nu, en, rf9, n3, wA, wC, wN, w9, (by rcases hor9 with e | ⟨e1, e2⟩; (rw [e]; exact ht); (rw [e2]; exact (him e1).2.1)), R9, T, hK, hu, him45, hwa, h01, him, hP⟩ hS
set_option maxHeartbeats 4000000 in
set_option maxRecDepth 100000 in
theorem lc_count (hg : big g) (F : Cx p s m #[Value.ref b] c code 4 wsL_law RL D (tyL cI cJ) A) (hX : va_X b Lx xs s s.heap) (hbl : b < s.heap.size) (hbA : ¬ A b) (hi1 : vp_in (i + 1) Lx) (hi2 : vp_in (i + 2) Lx) (hi3 : vp_in (i + 3) Lx) (hi4 : vp_in (i + 4) Lx) (hl : lv_has ls 4 [(3, .int i), (0, .ref b), (1, .ref (a 0)), (2, .ref (a 28))]) (hI : LI D A cI cJ a H) (hS : va_S A s.heap H locs) (ct : ∀ (H : Heap) (locs : List Loc), LI D A cI cJ a H → va_S A s.heap H locs → W p l e room_1 s m #[Value.ref b] below meth c H locs 37 721 Q (F0 m 1190 ls [])) : W p l e room_1 s m #[Value.ref b] below meth c H locs 37 721 Q (F0 m 1167 ls []) := by
  have hx := F.1.1
  have hb := F.1.2.1
  have hts := F.1.2.2.2.2
  obtain ⟨t, u, im, wa, L, K, hi, np, nh, na, ns, nd, nx, ny, tp, th, ta, ts, td, tx, ty, kp, kh, ka, ks, kd, kx, ky, ld, rd, sd, nc, nk, nf, nl, ne, tc, tk, tf, tl, te, kc, kk, kf, kl, ke, sg, nu, en, rf, n3, wA, wC, wN, w, ht, R, T, hK, hu, him45, hwa, h01, him, hP⟩ := hI
  obtain ⟨r9, h4, h5⟩ := oCount (g := g) w hg R (nI K) (nI L) rf (xs (i + 1).toNatClampNeg)
  refine lv_aload_n hx hb dL_law_1167 rfl (lv_at hl 2 rfl) ?_
  refine lv_aload_n hx hb dL_law_1168 rfl (lv_at hl 1 rfl) ?_
  refine lv_iload_n hx hb dL_law_1169 rfl (lv_at hl 0 rfl) ?_
  refine lv_iconst (v := 1) hx hb dL_law_1170 (by decide) ?_
  refine lv_iadd hx hb dL_law_1171 ?_
  refine va_sld hx hb hX hbl hbA hS hi1 dL_law_1172 ?_
  refine cV_i (As := [.int (xs (i + 1).toNatClampNeg)]) (rest := []) F (kX4_count l D cI cJ H.size g (a 0) (a 1) (a 7) (a 13) (a 19) (a 21) (a 24) (a 25) (a 26) (a 27) (a 2) (a 3) (a 4) (a 5) (a 6) (a 20) hi (nI K) np nh na ns nd nx ny ne (nI L) rf (xs (i + 1).toNatClampNeg) _ h4) (cwV 1 hts gL_law_X4_count rfl rfl rfl eVX4_count ⟨Nat.le_of_ble_eq_true rfl, Nat.le_of_ble_eq_true rfl⟩) [0, 1, 6, 19, 27] hP hS (by decide) rfl rfl 0 rfl rfl rfl hl.1 (Nat.le_of_ble_eq_true rfl) ⟨Nat.le_refl _, Nat.le_refl _⟩ rfl dL_law_1173 (fun H locs hP hS => ?_)
  have hP : WD D A (wl cI cJ a hi (nI K) np nh na ns nd nx ny nc nk nf nl ne tp th ta ts td tx ty tc tk tf tl te kp kh ka ks kd kx ky kc kk kf kl ke (nI L) sg wA wC wN ld nu en rf (rw1 t) (rw1 u) (rw1 im) (rw1 wa) hi sg nu rf (nI L) (nI K) rd n3 sd) H := hP
  refine lv_aload_n hx hb dL_law_1176 rfl (lv_at hl 3 rfl) ?_
  refine lv_aload_n hx hb dL_law_1177 rfl (lv_at hl 1 rfl) ?_
  refine lv_iload_n hx hb dL_law_1178 rfl (lv_at hl 0 rfl) ?_
  refine lv_iconst (v := 1) hx hb dL_law_1179 (by decide) ?_
  refine lv_iadd hx hb dL_law_1180 ?_
  refine va_sld hx hb hX hbl hbA hS hi1 dL_law_1181 ?_
  refine cV_i (As := [.int (xs (i + 1).toNatClampNeg)]) (rest := [.int r9]) F (kX5_count l D cI cJ H.size g (a 28) (a 29) (a 30) (a 31) (a 32) (a 33) (a 34) (a 35) (a 36) hi (nI L) (nI K) rd sd (rw1 t) rf (xs (i + 1).toNatClampNeg) _ h5) (cwV 1 hts gL_law_X5_count rfl rfl rfl eVX5_count ⟨Nat.le_of_ble_eq_true rfl, Nat.le_of_ble_eq_true rfl⟩) [28, 29, 35] hP hS (by decide) rfl rfl 0 rfl rfl rfl hl.1 (Nat.le_of_ble_eq_true rfl) ⟨Nat.le_refl _, Nat.le_refl _⟩ rfl dL_law_1182 (fun H locs hP hS => ?_)
  have hP : WD D A (wl cI cJ a hi (nI K) np nh na ns nd nx ny nc nk nf nl ne tp th ta ts td tx ty tc tk tf tl te kp kh ka ks kd kx ky kc kk kf kl ke (nI L) sg wA wC wN ld nu en rf (rw1 t) (rw1 u) (rw1 im) (rw1 wa) hi sg nu rf (nI L) (nI K) rd n3 sd) H := hP
  refine lv_icmp_eq (tgt := 1190) hx hb dL_law_1185 (by decide) (fun _ => ?_) (fun h => absurd rfl h)
  exact ct H locs ⟨t, u, im, wa, L, K, hi, np, nh, na, ns, nd, nx, ny, tp, th, ta, ts, td, tx, ty, kp, kh, ka, ks, kd, kx, ky, ld, rd, sd, nc, nk, nf, nl, ne, tc, tk, tf, tl, te, kc, kk, kf, kl, ke, sg, nu, en, rf, n3, wA, wC, wN, w, ht, R, T, hK, hu, him45, hwa, h01, him, hP⟩ hS
end PLW
