/-! ===== the law: its calls (7); laid by mklaw.py ===== -/
section PLW
variable {p : Program} {l : Launch} {e : Env} {s : State} {m : MethodId} {below : List Frame} {meth : Method} {c : Code} {H : Heap} {locs : List Loc} {Q : State → Prop} {ls : Array Slot} {D : va_G} {A : Nat → Prop} {cI cJ : ClassId} {b Lx : Nat} {xs : Nat → Int32} {a : Nat → Nat} {i : Int32} {g : Nat}
set_option maxHeartbeats 4000000 in
set_option maxRecDepth 100000 in
theorem lc_storm (hg : big g) (F : Cx p s m #[Value.ref b] c code 4 wsL_law RL D (tyL cI cJ) A) (hX : va_X b Lx xs s s.heap) (hbl : b < s.heap.size) (hbA : ¬ A b) (hi1 : vp_in (i + 1) Lx) (hi2 : vp_in (i + 2) Lx) (hi3 : vp_in (i + 3) Lx) (hi4 : vp_in (i + 4) Lx) (hl : lv_has ls 4 [(3, .int i), (0, .ref b), (1, .ref (a 0)), (2, .ref (a 28))]) (hI : LI D A cI cJ a H) (hS : va_S A s.heap H locs) (ct : ∀ (H : Heap) (locs : List Loc), LI D A cI cJ a H → va_S A s.heap H locs → W p l e room_1 s m #[Value.ref b] below meth c H locs 37 721 Q (F0 m 1190 ls [])) : W p l e room_1 s m #[Value.ref b] below meth c H locs 37 721 Q (F0 m 938 ls []) := by
  have hx := F.1.1
  have hb := F.1.2.1
  have hts := F.1.2.2.2.2
  obtain ⟨t, u, im, wa, L, K, hi, np, nh, na, ns, nd, nx, ny, tp, th, ta, ts, td, tx, ty, kp, kh, ka, ks, kd, kx, ky, ld, rd, sd, nc, nk, nf, nl, ne, tc, tk, tf, tl, te, kc, kk, kf, kl, ke, sg, nu, en, rf, n3, wA, wC, wN, w, ht, R, T, hK, hu, him45, hwa, h01, him, hP⟩ := hI
  obtain ⟨r9, u9, rf9, o19, o29, o39, o49, o59, o69, o79, o89, o99, o109, o119, o129, wA9, wC9, wN9, h4, h5, hu9⟩ := oStorm (g := g) w hg R rf (xs (i + 1).toNatClampNeg) (xs (i + 2).toNatClampNeg) (xs (i + 3).toNatClampNeg) (xs (i + 4).toNatClampNeg) tp th ta ts td tx ty tc tk tf tl te wA wC wN hu
  refine lv_aload_n hx hb dL_law_938 rfl (lv_at hl 2 rfl) ?_
  refine lv_aload_n hx hb dL_law_939 rfl (lv_at hl 1 rfl) ?_
  refine lv_iload_n hx hb dL_law_940 rfl (lv_at hl 0 rfl) ?_
  refine lv_iconst (v := 1) hx hb dL_law_941 (by decide) ?_
  refine lv_iadd hx hb dL_law_942 ?_
  refine va_sld hx hb hX hbl hbA hS hi1 dL_law_943 ?_
  refine lv_aload_n hx hb dL_law_944 rfl (lv_at hl 1 rfl) ?_
  refine lv_iload_n hx hb dL_law_945 rfl (lv_at hl 0 rfl) ?_
  refine lv_iconst (v := 2) hx hb dL_law_946 (by decide) ?_
  refine lv_iadd hx hb dL_law_947 ?_
  refine va_sld hx hb hX hbl hbA hS hi2 dL_law_948 ?_
  refine lv_aload_n hx hb dL_law_949 rfl (lv_at hl 1 rfl) ?_
  refine lv_iload_n hx hb dL_law_950 rfl (lv_at hl 0 rfl) ?_
  refine lv_iconst (v := 3) hx hb dL_law_951 (by decide) ?_
  refine lv_iadd hx hb dL_law_952 ?_
  refine va_sld hx hb hX hbl hbA hS hi3 dL_law_953 ?_
  refine lv_aload_n hx hb dL_law_954 rfl (lv_at hl 1 rfl) ?_
  refine lv_iload_n hx hb dL_law_955 rfl (lv_at hl 0 rfl) ?_
  refine lv_iconst (v := 4) hx hb dL_law_956 (by decide) ?_
  refine lv_iadd hx hb dL_law_957 ?_
  refine va_sld hx hb hX hbl hbA hS hi4 dL_law_958 ?_
  refine cV_l (As := [.int (xs (i + 1).toNatClampNeg), .int (xs (i + 2).toNatClampNeg), .int (xs (i + 3).toNatClampNeg), .int (xs (i + 4).toNatClampNeg)]) (rest := []) F (kX4_storm l D cI cJ H.size g (a 0) (a 1) (a 7) (a 13) (a 19) (a 21) (a 24) (a 25) (a 26) (a 27) (a 2) (a 3) (a 4) (a 5) (a 6) (a 8) (a 9) (a 10) (a 11) (a 12) (a 22) (a 23) hi (nI K) np nh na ns nd nx ny nc nk nf nl ne tp th ta ts td tx ty tc tk tf tl te wA wC wN rf (xs (i + 1).toNatClampNeg) (xs (i + 2).toNatClampNeg) (xs (i + 3).toNatClampNeg) (xs (i + 4).toNatClampNeg) _ _ _ _ _ _ _ _ _ _ _ _ _ _ _ _ _ h4) (cwV 4 hts gL_law_X4_storm rfl rfl rfl eVX4_storm ⟨Nat.le_of_ble_eq_true rfl, Nat.le_of_ble_eq_true rfl⟩) [0, 1, 2, 3, 4, 5, 6, 7, 8, 9, 10, 11, 12, 21, 22, 23, 27] hP hS (by decide) rfl rfl 0 rfl rfl rfl hl.1 (Nat.le_of_ble_eq_true rfl) ⟨Nat.le_refl _, Nat.le_refl _⟩ rfl dL_law_959 (fun H locs hP hS => ?_)
  have hP : WD D A (wl cI cJ a hi (nI K) np nh na ns nd nx ny nc nk nf nl ne o19 o29 o39 o49 o59 o69 o79 o89 o99 o109 o119 o129 kp kh ka ks kd kx ky kc kk kf kl ke (nI L) sg wA9 wC9 wN9 ld nu en rf9 (rw1 t) (rw1 u) (rw1 im) (rw1 wa) hi sg nu rf (nI L) (nI K) rd n3 sd) H := hP
  refine lv_aload_n hx hb dL_law_962 rfl (lv_at hl 3 rfl) ?_
  refine lv_aload_n hx hb dL_law_963 rfl (lv_at hl 1 rfl) ?_
  refine lv_iload_n hx hb dL_law_964 rfl (lv_at hl 0 rfl) ?_
  refine lv_iconst (v := 1) hx hb dL_law_965 (by decide) ?_
  refine lv_iadd hx hb dL_law_966 ?_
  refine va_sld hx hb hX hbl hbA hS hi1 dL_law_967 ?_
  refine lv_aload_n hx hb dL_law_968 rfl (lv_at hl 1 rfl) ?_
  refine lv_iload_n hx hb dL_law_969 rfl (lv_at hl 0 rfl) ?_
  refine lv_iconst (v := 2) hx hb dL_law_970 (by decide) ?_
  refine lv_iadd hx hb dL_law_971 ?_
  refine va_sld hx hb hX hbl hbA hS hi2 dL_law_972 ?_
  refine lv_aload_n hx hb dL_law_973 rfl (lv_at hl 1 rfl) ?_
  refine lv_iload_n hx hb dL_law_974 rfl (lv_at hl 0 rfl) ?_
  refine lv_iconst (v := 3) hx hb dL_law_975 (by decide) ?_
  refine lv_iadd hx hb dL_law_976 ?_
  refine va_sld hx hb hX hbl hbA hS hi3 dL_law_977 ?_
  refine lv_aload_n hx hb dL_law_978 rfl (lv_at hl 1 rfl) ?_
  refine lv_iload_n hx hb dL_law_979 rfl (lv_at hl 0 rfl) ?_
  refine lv_iconst (v := 4) hx hb dL_law_980 (by decide) ?_
  refine lv_iadd hx hb dL_law_981 ?_
  refine va_sld hx hb hX hbl hbA hS hi4 dL_law_982 ?_
  refine cV_l (As := [.int (xs (i + 1).toNatClampNeg), .int (xs (i + 2).toNatClampNeg), .int (xs (i + 3).toNatClampNeg), .int (xs (i + 4).toNatClampNeg)]) (rest := [.long r9]) F (kX5_storm l D cI cJ H.size g (a 28) (a 29) (a 30) (a 31) (a 32) (a 33) (a 34) (a 35) (a 36) hi (nI L) (nI K) rd sd (rw1 t) (rw1 u) rf (xs (i + 1).toNatClampNeg) (xs (i + 2).toNatClampNeg) (xs (i + 3).toNatClampNeg) (xs (i + 4).toNatClampNeg) _ _ _ h5) (cwV 4 hts gL_law_X5_storm rfl rfl rfl eVX5_storm ⟨Nat.le_of_ble_eq_true rfl, Nat.le_of_ble_eq_true rfl⟩) [28, 29, 30, 35] hP hS (by decide) rfl rfl 0 rfl rfl rfl hl.1 (Nat.le_of_ble_eq_true rfl) ⟨Nat.le_refl _, Nat.le_refl _⟩ rfl dL_law_983 (fun H locs hP hS => ?_)
  have hP : WD D A (wl cI cJ a hi (nI K) np nh na ns nd nx ny nc nk nf nl ne o19 o29 o39 o49 o59 o69 o79 o89 o99 o109 o119 o129 kp kh ka ks kd kx ky kc kk kf kl ke (nI L) sg wA9 wC9 wN9 ld nu en rf9 (rw1 t) (rw1 u9) (rw1 im) (rw1 wa) hi sg nu rf9 (nI L) (nI K) rd n3 sd) H := hP
  refine W.lcmp hx hb dL_law_986 ?_
  refine lv_if_eq (tgt := 1190) hx hb dL_law_987 (by decide) (fun _ => ?_) (fun h => absurd ((lg_cmp_eq _ _).mpr rfl) h)
  exact ct H locs ⟨t, u9, im, wa, L, K, hi, np, nh, na, ns, nd, nx, ny, o19, o29, o39, o49, o59, o69, o79, kp, kh, ka, ks, kd, kx, ky, ld, rd, sd, nc, nk, nf, nl, ne, o89, o99, o109, o119, o129, kc, kk, kf, kl, ke, sg, nu, en, rf9, n3, wA9, wC9, wN9, w, ht, R, T, hK, hu9, him45, hwa, h01, him, hP⟩ hS
set_option maxHeartbeats 4000000 in
set_option maxRecDepth 100000 in
theorem lc_mean (hg : big g) (F : Cx p s m #[Value.ref b] c code 4 wsL_law RL D (tyL cI cJ) A) (hX : va_X b Lx xs s s.heap) (hbl : b < s.heap.size) (hbA : ¬ A b) (hi1 : vp_in (i + 1) Lx) (hi2 : vp_in (i + 2) Lx) (hi3 : vp_in (i + 3) Lx) (hi4 : vp_in (i + 4) Lx) (hl : lv_has ls 4 [(3, .int i), (0, .ref b), (1, .ref (a 0)), (2, .ref (a 28))]) (hI : LI D A cI cJ a H) (hS : va_S A s.heap H locs) (ct : ∀ (H : Heap) (locs : List Loc), LI D A cI cJ a H → va_S A s.heap H locs → W p l e room_1 s m #[Value.ref b] below meth c H locs 37 721 Q (F0 m 1190 ls [])) : W p l e room_1 s m #[Value.ref b] below meth c H locs 37 721 Q (F0 m 992 ls []) := by
  have hx := F.1.1
  have hb := F.1.2.1
  have hts := F.1.2.2.2.2
  obtain ⟨t, u, im, wa, L, K, hi, np, nh, na, ns, nd, nx, ny, tp, th, ta, ts, td, tx, ty, kp, kh, ka, ks, kd, kx, ky, ld, rd, sd, nc, nk, nf, nl, ne, tc, tk, tf, tl, te, kc, kk, kf, kl, ke, sg, nu, en, rf, n3, wA, wC, wN, w, ht, R, T, hK, hu, him45, hwa, h01, him, hP⟩ := hI
  obtain ⟨r9, rf9, h4, h5⟩ := oMean (g := g) w hg R rf (xs (i + 1).toNatClampNeg)
  refine lv_aload_n hx hb dL_law_992 rfl (lv_at hl 2 rfl) ?_
  refine lv_aload_n hx hb dL_law_993 rfl (lv_at hl 1 rfl) ?_
  refine lv_iload_n hx hb dL_law_994 rfl (lv_at hl 0 rfl) ?_
  refine lv_iconst (v := 1) hx hb dL_law_995 (by decide) ?_
  refine lv_iadd hx hb dL_law_996 ?_
  refine va_sld hx hb hX hbl hbA hS hi1 dL_law_997 ?_
  refine cV_l (As := [.int (xs (i + 1).toNatClampNeg)]) (rest := []) F (kX4_mean l D cI cJ H.size g (a 0) (a 1) (a 7) (a 13) (a 19) (a 21) (a 24) (a 25) (a 26) (a 27) (a 2) (a 3) (a 4) (a 5) (a 6) hi (nI K) np nh na ns nd nx ny ne rf (xs (i + 1).toNatClampNeg) _ _ h4) (cwV 1 hts gL_law_X4_mean rfl rfl rfl eVX4_mean ⟨Nat.le_of_ble_eq_true rfl, Nat.le_of_ble_eq_true rfl⟩) [0, 1, 6, 27] hP hS (by decide) rfl rfl 0 rfl rfl rfl hl.1 (Nat.le_of_ble_eq_true rfl) ⟨Nat.le_refl _, Nat.le_refl _⟩ rfl dL_law_998 (fun H locs hP hS => ?_)
  have hP : WD D A (wl cI cJ a hi (nI K) np nh na ns nd nx ny nc nk nf nl ne tp th ta ts td tx ty tc tk tf tl te kp kh ka ks kd kx ky kc kk kf kl ke (nI L) sg wA wC wN ld nu en rf9 (rw1 t) (rw1 u) (rw1 im) (rw1 wa) hi sg nu rf (nI L) (nI K) rd n3 sd) H := hP
  refine lv_aload_n hx hb dL_law_1001 rfl (lv_at hl 3 rfl) ?_
  refine lv_aload_n hx hb dL_law_1002 rfl (lv_at hl 1 rfl) ?_
  refine lv_iload_n hx hb dL_law_1003 rfl (lv_at hl 0 rfl) ?_
  refine lv_iconst (v := 1) hx hb dL_law_1004 (by decide) ?_
  refine lv_iadd hx hb dL_law_1005 ?_
  refine va_sld hx hb hX hbl hbA hS hi1 dL_law_1006 ?_
  refine cV_l (As := [.int (xs (i + 1).toNatClampNeg)]) (rest := [.long r9]) F (kX5_mean l D cI cJ H.size g (a 28) (a 29) (a 30) (a 31) (a 32) (a 33) (a 34) (a 35) (a 36) hi (nI L) (nI K) rd sd (rw1 t) rf (xs (i + 1).toNatClampNeg) _ _ h5) (cwV 1 hts gL_law_X5_mean rfl rfl rfl eVX5_mean ⟨Nat.le_of_ble_eq_true rfl, Nat.le_of_ble_eq_true rfl⟩) [28, 29, 35] hP hS (by decide) rfl rfl 0 rfl rfl rfl hl.1 (Nat.le_of_ble_eq_true rfl) ⟨Nat.le_refl _, Nat.le_refl _⟩ rfl dL_law_1007 (fun H locs hP hS => ?_)
  have hP : WD D A (wl cI cJ a hi (nI K) np nh na ns nd nx ny nc nk nf nl ne tp th ta ts td tx ty tc tk tf tl te kp kh ka ks kd kx ky kc kk kf kl ke (nI L) sg wA wC wN ld nu en rf9 (rw1 t) (rw1 u) (rw1 im) (rw1 wa) hi sg nu rf9 (nI L) (nI K) rd n3 sd) H := hP
  refine W.lcmp hx hb dL_law_1010 ?_
  refine lv_if_eq (tgt := 1190) hx hb dL_law_1011 (by decide) (fun _ => ?_) (fun h => absurd ((lg_cmp_eq _ _).mpr rfl) h)
  exact ct H locs ⟨t, u, im, wa, L, K, hi, np, nh, na, ns, nd, nx, ny, tp, th, ta, ts, td, tx, ty, kp, kh, ka, ks, kd, kx, ky, ld, rd, sd, nc, nk, nf, nl, ne, tc, tk, tf, tl, te, kc, kk, kf, kl, ke, sg, nu, en, rf9, n3, wA, wC, wN, w, ht, R, T, hK, hu, him45, hwa, h01, him, hP⟩ hS
set_option maxHeartbeats 4000000 in
set_option maxRecDepth 100000 in
theorem lc_log (hg : big g) (F : Cx p s m #[Value.ref b] c code 4 wsL_law RL D (tyL cI cJ) A) (hX : va_X b Lx xs s s.heap) (hbl : b < s.heap.size) (hbA : ¬ A b) (hi1 : vp_in (i + 1) Lx) (hi2 : vp_in (i + 2) Lx) (hi3 : vp_in (i + 3) Lx) (hi4 : vp_in (i + 4) Lx) (hl : lv_has ls 4 [(3, .int i), (0, .ref b), (1, .ref (a 0)), (2, .ref (a 28))]) (hI : LI D A cI cJ a H) (hS : va_S A s.heap H locs) (ct : ∀ (H : Heap) (locs : List Loc), LI D A cI cJ a H → va_S A s.heap H locs → W p l e room_1 s m #[Value.ref b] below meth c H locs 37 721 Q (F0 m 1190 ls [])) : W p l e room_1 s m #[Value.ref b] below meth c H locs 37 721 Q (F0 m 1016 ls []) := by
  have hx := F.1.1
  have hb := F.1.2.1
  have hts := F.1.2.2.2.2
  obtain ⟨t, u, im, wa, L, K, hi, np, nh, na, ns, nd, nx, ny, tp, th, ta, ts, td, tx, ty, kp, kh, ka, ks, kd, kx, ky, ld, rd, sd, nc, nk, nf, nl, ne, tc, tk, tf, tl, te, kc, kk, kf, kl, ke, sg, nu, en, rf, n3, wA, wC, wN, w, ht, R, T, hK, hu, him45, hwa, h01, him, hP⟩ := hI
  obtain ⟨r9, u9, rf9, o19, o29, o39, o49, o59, o69, o79, o89, o99, o109, o119, o129, h4, h5, hu9⟩ := oLog (g := g) w hg R nu hK rf (xs (i + 1).toNatClampNeg) (xs (i + 2).toNatClampNeg) tp th ta ts td tx ty tc tk tf tl te hu
  refine lv_aload_n hx hb dL_law_1016 rfl (lv_at hl 2 rfl) ?_
  refine lv_aload_n hx hb dL_law_1017 rfl (lv_at hl 1 rfl) ?_
  refine lv_iload_n hx hb dL_law_1018 rfl (lv_at hl 0 rfl) ?_
  refine lv_iconst (v := 1) hx hb dL_law_1019 (by decide) ?_
  refine lv_iadd hx hb dL_law_1020 ?_
  refine va_sld hx hb hX hbl hbA hS hi1 dL_law_1021 ?_
  refine lv_aload_n hx hb dL_law_1022 rfl (lv_at hl 1 rfl) ?_
  refine lv_iload_n hx hb dL_law_1023 rfl (lv_at hl 0 rfl) ?_
  refine lv_iconst (v := 2) hx hb dL_law_1024 (by decide) ?_
  refine lv_iadd hx hb dL_law_1025 ?_
  refine va_sld hx hb hX hbl hbA hS hi2 dL_law_1026 ?_
  refine cV_i (As := [.int (xs (i + 1).toNatClampNeg), .int (xs (i + 2).toNatClampNeg)]) (rest := []) F (kX4_log l D cI cJ H.size g (a 0) (a 1) (a 7) (a 13) (a 19) (a 21) (a 24) (a 25) (a 26) (a 27) (a 2) (a 3) (a 4) (a 5) (a 6) (a 8) (a 9) (a 10) (a 11) (a 12) hi (nI K) np nh na ns nd nx ny nc nk nf nl ne tp th ta ts td tx ty tc tk tf tl te nu rf (xs (i + 1).toNatClampNeg) (xs (i + 2).toNatClampNeg) _ _ _ _ _ _ _ _ _ _ _ _ _ _ h4) (cwV 2 hts gL_law_X4_log rfl rfl rfl eVX4_log ⟨Nat.le_of_ble_eq_true rfl, Nat.le_of_ble_eq_true rfl⟩) [0, 1, 2, 3, 4, 5, 6, 7, 8, 9, 10, 11, 12, 25, 27] hP hS (by decide) rfl rfl 0 rfl rfl rfl hl.1 (Nat.le_of_ble_eq_true rfl) ⟨Nat.le_refl _, Nat.le_refl _⟩ rfl dL_law_1027 (fun H locs hP hS => ?_)
  have hP : WD D A (wl cI cJ a hi (nI K) np nh na ns nd nx ny nc nk nf nl ne o19 o29 o39 o49 o59 o69 o79 o89 o99 o109 o119 o129 kp kh ka ks kd kx ky kc kk kf kl ke (nI L) sg wA wC wN ld nu en rf9 (rw1 t) (rw1 u) (rw1 im) (rw1 wa) hi sg nu rf (nI L) (nI K) rd n3 sd) H := hP
  refine lv_aload_n hx hb dL_law_1030 rfl (lv_at hl 3 rfl) ?_
  refine lv_aload_n hx hb dL_law_1031 rfl (lv_at hl 1 rfl) ?_
  refine lv_iload_n hx hb dL_law_1032 rfl (lv_at hl 0 rfl) ?_
  refine lv_iconst (v := 1) hx hb dL_law_1033 (by decide) ?_
  refine lv_iadd hx hb dL_law_1034 ?_
  refine va_sld hx hb hX hbl hbA hS hi1 dL_law_1035 ?_
  refine lv_aload_n hx hb dL_law_1036 rfl (lv_at hl 1 rfl) ?_
  refine lv_iload_n hx hb dL_law_1037 rfl (lv_at hl 0 rfl) ?_
  refine lv_iconst (v := 2) hx hb dL_law_1038 (by decide) ?_
  refine lv_iadd hx hb dL_law_1039 ?_
  refine va_sld hx hb hX hbl hbA hS hi2 dL_law_1040 ?_
  refine cV_i (As := [.int (xs (i + 1).toNatClampNeg), .int (xs (i + 2).toNatClampNeg)]) (rest := [.int r9]) F (kX5_log l D cI cJ H.size g (a 28) (a 29) (a 30) (a 31) (a 32) (a 33) (a 34) (a 35) (a 36) hi (nI L) (nI K) rd sd (rw1 t) (rw1 u) nu rf (xs (i + 1).toNatClampNeg) (xs (i + 2).toNatClampNeg) _ _ _ h5) (cwV 2 hts gL_law_X5_log rfl rfl rfl eVX5_log ⟨Nat.le_of_ble_eq_true rfl, Nat.le_of_ble_eq_true rfl⟩) [28, 29, 30, 34, 35] hP hS (by decide) rfl rfl 0 rfl rfl rfl hl.1 (Nat.le_of_ble_eq_true rfl) ⟨Nat.le_refl _, Nat.le_refl _⟩ rfl dL_law_1041 (fun H locs hP hS => ?_)
  have hP : WD D A (wl cI cJ a hi (nI K) np nh na ns nd nx ny nc nk nf nl ne o19 o29 o39 o49 o59 o69 o79 o89 o99 o109 o119 o129 kp kh ka ks kd kx ky kc kk kf kl ke (nI L) sg wA wC wN ld nu en rf9 (rw1 t) (rw1 u9) (rw1 im) (rw1 wa) hi sg nu rf9 (nI L) (nI K) rd n3 sd) H := hP
  refine lv_icmp_eq (tgt := 1190) hx hb dL_law_1044 (by decide) (fun _ => ?_) (fun h => absurd rfl h)
  exact ct H locs ⟨t, u9, im, wa, L, K, hi, np, nh, na, ns, nd, nx, ny, o19, o29, o39, o49, o59, o69, o79, kp, kh, ka, ks, kd, kx, ky, ld, rd, sd, nc, nk, nf, nl, ne, o89, o99, o109, o119, o129, kc, kk, kf, kl, ke, sg, nu, en, rf9, n3, wA, wC, wN, w, ht, R, T, hK, hu9, him45, hwa, h01, him, hP⟩ hS
set_option maxHeartbeats 4000000 in
set_option maxRecDepth 100000 in
theorem lc_row (hg : big g) (F : Cx p s m #[Value.ref b] c code 4 wsL_law RL D (tyL cI cJ) A) (hX : va_X b Lx xs s s.heap) (hbl : b < s.heap.size) (hbA : ¬ A b) (hi1 : vp_in (i + 1) Lx) (hi2 : vp_in (i + 2) Lx) (hi3 : vp_in (i + 3) Lx) (hi4 : vp_in (i + 4) Lx) (hl : lv_has ls 4 [(3, .int i), (0, .ref b), (1, .ref (a 0)), (2, .ref (a 28))]) (hI : LI D A cI cJ a H) (hS : va_S A s.heap H locs) (ct : ∀ (H : Heap) (locs : List Loc), LI D A cI cJ a H → va_S A s.heap H locs → W p l e room_1 s m #[Value.ref b] below meth c H locs 37 721 Q (F0 m 1190 ls [])) : W p l e room_1 s m #[Value.ref b] below meth c H locs 37 721 Q (F0 m 1049 ls []) := by
  have hx := F.1.1
  have hb := F.1.2.1
  have hts := F.1.2.2.2.2
  obtain ⟨t, u, im, wa, L, K, hi, np, nh, na, ns, nd, nx, ny, tp, th, ta, ts, td, tx, ty, kp, kh, ka, ks, kd, kx, ky, ld, rd, sd, nc, nk, nf, nl, ne, tc, tk, tf, tl, te, kc, kk, kf, kl, ke, sg, nu, en, rf, n3, wA, wC, wN, w, ht, R, T, hK, hu, him45, hwa, h01, him, hP⟩ := hI
  obtain ⟨r9, K9, nu9, rf9, h4, h5, hK9⟩ := oRow (g := g) hK (xs (i + 1).toNatClampNeg)
  refine lv_aload_n hx hb dL_law_1049 rfl (lv_at hl 2 rfl) ?_
  refine lv_aload_n hx hb dL_law_1050 rfl (lv_at hl 1 rfl) ?_
  refine lv_iload_n hx hb dL_law_1051 rfl (lv_at hl 0 rfl) ?_
  refine lv_iconst (v := 1) hx hb dL_law_1052 (by decide) ?_
  refine lv_iadd hx hb dL_law_1053 ?_
  refine va_sld hx hb hX hbl hbA hS hi1 dL_law_1054 ?_
  refine cV_i (As := [.int (xs (i + 1).toNatClampNeg)]) (rest := []) F (kX4_row l D cI cJ H.size g (a 0) (a 1) (a 7) (a 13) (a 19) (a 21) (a 24) (a 25) (a 26) (a 27) hi (nI K) nu rf (xs (i + 1).toNatClampNeg) _ _ _ _ h4) (cwV 1 hts gL_law_X4_row rfl rfl rfl eVX4_row ⟨Nat.le_of_ble_eq_true rfl, Nat.le_of_ble_eq_true rfl⟩) [0, 25, 27] hP hS (by decide) rfl rfl 0 rfl rfl rfl hl.1 (Nat.le_of_ble_eq_true rfl) ⟨Nat.le_refl _, Nat.le_refl _⟩ rfl dL_law_1055 (fun H locs hP hS => ?_)
  have hP : WD D A (wl cI cJ a hi (nI K9) np nh na ns nd nx ny nc nk nf nl ne tp th ta ts td tx ty tc tk tf tl te kp kh ka ks kd kx ky kc kk kf kl ke (nI L) sg wA wC wN ld nu9 en rf9 (rw1 t) (rw1 u) (rw1 im) (rw1 wa) hi sg nu rf (nI L) (nI K) rd n3 sd) H := hP
  refine lv_aload_n hx hb dL_law_1058 rfl (lv_at hl 3 rfl) ?_
  refine lv_aload_n hx hb dL_law_1059 rfl (lv_at hl 1 rfl) ?_
  refine lv_iload_n hx hb dL_law_1060 rfl (lv_at hl 0 rfl) ?_
  refine lv_iconst (v := 1) hx hb dL_law_1061 (by decide) ?_
  refine lv_iadd hx hb dL_law_1062 ?_
  refine va_sld hx hb hX hbl hbA hS hi1 dL_law_1063 ?_
  refine cV_i (As := [.int (xs (i + 1).toNatClampNeg)]) (rest := [.int r9]) F (kX5_row l D cI cJ H.size g (a 28) (a 29) (a 30) (a 31) (a 32) (a 33) (a 34) (a 35) (a 36) hi (nI L) (nI K) rd sd nu rf (xs (i + 1).toNatClampNeg) _ _ _ _ h5) (cwV 1 hts gL_law_X5_row rfl rfl rfl eVX5_row ⟨Nat.le_of_ble_eq_true rfl, Nat.le_of_ble_eq_true rfl⟩) [28, 34, 35] hP hS (by decide) rfl rfl 0 rfl rfl rfl hl.1 (Nat.le_of_ble_eq_true rfl) ⟨Nat.le_refl _, Nat.le_refl _⟩ rfl dL_law_1064 (fun H locs hP hS => ?_)
  have hP : WD D A (wl cI cJ a hi (nI K9) np nh na ns nd nx ny nc nk nf nl ne tp th ta ts td tx ty tc tk tf tl te kp kh ka ks kd kx ky kc kk kf kl ke (nI L) sg wA wC wN ld nu9 en rf9 (rw1 t) (rw1 u) (rw1 im) (rw1 wa) hi sg nu9 rf9 (nI L) (nI K9) rd n3 sd) H := hP
  refine lv_icmp_eq (tgt := 1190) hx hb dL_law_1067 (by decide) (fun _ => ?_) (fun h => absurd rfl h)
  exact ct H locs ⟨t, u, im, wa, L, K9, hi, np, nh, na, ns, nd, nx, ny, tp, th, ta, ts, td, tx, ty, kp, kh, ka, ks, kd, kx, ky, ld, rd, sd, nc, nk, nf, nl, ne, tc, tk, tf, tl, te, kc, kk, kf, kl, ke, sg, nu9, en, rf9, n3, wA, wC, wN, w, ht, R, T, hK9, hu, him45, hwa, h01, him, hP⟩ hS
set_option maxHeartbeats 4000000 in
set_option maxRecDepth 100000 in
theorem lc_judge (hg : big g) (F : Cx p s m #[Value.ref b] c code 4 wsL_law RL D (tyL cI cJ) A) (hX : va_X b Lx xs s s.heap) (hbl : b < s.heap.size) (hbA : ¬ A b) (hi1 : vp_in (i + 1) Lx) (hi2 : vp_in (i + 2) Lx) (hi3 : vp_in (i + 3) Lx) (hi4 : vp_in (i + 4) Lx) (hl : lv_has ls 4 [(3, .int i), (0, .ref b), (1, .ref (a 0)), (2, .ref (a 28))]) (hI : LI D A cI cJ a H) (hS : va_S A s.heap H locs) (ct : ∀ (H : Heap) (locs : List Loc), LI D A cI cJ a H → va_S A s.heap H locs → W p l e room_1 s m #[Value.ref b] below meth c H locs 37 721 Q (F0 m 1190 ls [])) : W p l e room_1 s m #[Value.ref b] below meth c H locs 37 721 Q (F0 m 1072 ls []) := by
  have hx := F.1.1
  have hb := F.1.2.1
  have hts := F.1.2.2.2.2
  obtain ⟨t, u, im, wa, L, K, hi, np, nh, na, ns, nd, nx, ny, tp, th, ta, ts, td, tx, ty, kp, kh, ka, ks, kd, kx, ky, ld, rd, sd, nc, nk, nf, nl, ne, tc, tk, tf, tl, te, kc, kk, kf, kl, ke, sg, nu, en, rf, n3, wA, wC, wN, w, ht, R, T, hK, hu, him45, hwa, h01, him, hP⟩ := hI
  obtain ⟨r9, u9, o19, o29, o39, o49, o59, o69, o79, o89, o99, o109, o119, o129, h4, h5, hu9⟩ := oJudge (g := g) w hg R nu hK tx ty tc tk tf tl te hu
  refine lv_aload_n hx hb dL_law_1072 rfl (lv_at hl 2 rfl) ?_
  refine cV_i (As := []) (rest := []) F (kX4_judge l D cI cJ H.size g (a 0) (a 1) (a 7) (a 13) (a 19) (a 21) (a 24) (a 25) (a 26) (a 27) (a 2) (a 3) (a 4) (a 5) (a 6) (a 8) (a 9) (a 10) (a 11) (a 12) hi (nI K) np nh na ns nd nx ny nc nk nf nl ne tp th ta ts td tx ty tc tk tf tl te nu  _ _ _ _ _ _ _ _ _ _ _ _ _ _ h4) (cwV 0 hts gL_law_X4_judge rfl rfl rfl eVX4_judge ⟨Nat.le_of_ble_eq_true rfl, Nat.le_of_ble_eq_true rfl⟩) [0, 1, 2, 3, 4, 5, 6, 7, 8, 9, 10, 11, 12, 25] hP hS (by decide) rfl rfl 0 rfl rfl rfl hl.1 (Nat.le_of_ble_eq_true rfl) ⟨Nat.le_refl _, Nat.le_refl _⟩ rfl dL_law_1073 (fun H locs hP hS => ?_)
  have hP : WD D A (wl cI cJ a hi (nI 0) np nh na ns nd nx ny nc nk nf nl ne o19 o29 o39 o49 o59 o69 o79 o89 o99 o109 o119 o129 kp kh ka ks kd kx ky kc kk kf kl ke (nI L) sg wA wC wN ld nu en rf (rw1 t) (rw1 u) (rw1 im) (rw1 wa) hi sg nu rf (nI L) (nI K) rd n3 sd) H := hP
  refine lv_aload_n hx hb dL_law_1076 rfl (lv_at hl 3 rfl) ?_
  refine cV_i (As := []) (rest := [.int r9]) F (kX5_judge l D cI cJ H.size g (a 28) (a 29) (a 30) (a 31) (a 32) (a 33) (a 34) (a 35) (a 36) hi (nI L) (nI K) rd sd (rw1 t) (rw1 u) nu  _ _ _ h5) (cwV 0 hts gL_law_X5_judge rfl rfl rfl eVX5_judge ⟨Nat.le_of_ble_eq_true rfl, Nat.le_of_ble_eq_true rfl⟩) [28, 29, 30, 34] hP hS (by decide) rfl rfl 0 rfl rfl rfl hl.1 (Nat.le_of_ble_eq_true rfl) ⟨Nat.le_refl _, Nat.le_refl _⟩ rfl dL_law_1077 (fun H locs hP hS => ?_)
  have hP : WD D A (wl cI cJ a hi (nI 0) np nh na ns nd nx ny nc nk nf nl ne o19 o29 o39 o49 o59 o69 o79 o89 o99 o109 o119 o129 kp kh ka ks kd kx ky kc kk kf kl ke (nI L) sg wA wC wN ld nu en rf (rw1 t) (rw1 u9) (rw1 im) (rw1 wa) hi sg nu rf (nI L) (nI 0) rd n3 sd) H := hP
  refine lv_icmp_eq (tgt := 1190) hx hb dL_law_1080 (by decide) (fun _ => ?_) (fun h => absurd rfl h)
  exact ct H locs ⟨t, u9, im, wa, L, 0, hi, np, nh, na, ns, nd, nx, ny, o19, o29, o39, o49, o59, o69, o79, kp, kh, ka, ks, kd, kx, ky, ld, rd, sd, nc, nk, nf, nl, ne, o89, o99, o109, o119, o129, kc, kk, kf, kl, ke, sg, nu, en, rf, n3, wA, wC, wN, w, ht, R, T, (Nat.zero_le _), hu9, him45, hwa, h01, him, hP⟩ hS
end PLW
