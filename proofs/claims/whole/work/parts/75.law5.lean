/-! ===== the law: its calls (5); laid by mklaw.py ===== -/
section PLW
variable {p : Program} {l : Launch} {e : Env} {s : State} {m : MethodId} {below : List Frame} {meth : Method} {c : Code} {H : Heap} {locs : List Loc} {Q : State → Prop} {ls : Array Slot} {D : va_G} {A : Nat → Prop} {cI cJ : ClassId} {b Lx : Nat} {xs : Nat → Int32} {a : Nat → Nat} {i : Int32} {g : Nat}
set_option maxHeartbeats 4000000 in
set_option maxRecDepth 100000 in
theorem lc_turners (hg : big g) (F : Cx p s m #[Value.ref b] c code 4 wsL_law RL D (tyL cI cJ) A) (hX : va_X b Lx xs s s.heap) (hbl : b < s.heap.size) (hbA : ¬ A b) (hi1 : vp_in (i + 1) Lx) (hi2 : vp_in (i + 2) Lx) (hi3 : vp_in (i + 3) Lx) (hi4 : vp_in (i + 4) Lx) (hl : lv_has ls 4 [(3, .int i), (0, .ref b), (1, .ref (a 0)), (2, .ref (a 28))]) (hI : LI D A cI cJ a H) (hS : va_S A s.heap H locs) (ct : ∀ (H : Heap) (locs : List Loc), LI D A cI cJ a H → va_S A s.heap H locs → W p l e room_1 s m #[Value.ref b] below meth c H locs 37 721 Q (F0 m 1190 ls [])) : W p l e room_1 s m #[Value.ref b] below meth c H locs 37 721 Q (F0 m 718 ls []) := by
  have hx := F.1.1
  have hb := F.1.2.1
  have hts := F.1.2.2.2.2
  obtain ⟨t, u, im, wa, L, K, hi, np, nh, na, ns, nd, nx, ny, tp, th, ta, ts, td, tx, ty, kp, kh, ka, ks, kd, kx, ky, ld, rd, sd, nc, nk, nf, nl, ne, tc, tk, tf, tl, te, kc, kk, kf, kl, ke, sg, nu, en, rf, n3, wA, wC, wN, w, ht, R, T, hK, hu, him45, hwa, h01, him, hP⟩ := hI
  obtain ⟨r9, x9, y9, o19, o29, o39, o49, o59, o69, o79, o89, o99, o109, o119, o129, h4, h5⟩ := oTurners (g := g) w hg R tp th ta ts td tx ty tc tk tf tl te
  refine lv_aload_n hx hb dL_law_718 rfl (lv_at hl 2 rfl) ?_
  refine cV_i (As := []) (rest := []) F (kX4_turners l D cI cJ H.size g (a 0) (a 1) (a 7) (a 13) (a 19) (a 21) (a 24) (a 25) (a 26) (a 27) (a 2) (a 3) (a 4) (a 5) (a 6) (a 8) (a 9) (a 10) (a 11) (a 12) hi (nI K) np nh na ns nd nx ny nc nk nf nl ne tp th ta ts td tx ty tc tk tf tl te  _ _ _ _ _ _ _ _ _ _ _ _ _ _ _ h4) (cwV 0 hts gL_law_X4_turners rfl rfl rfl eVX4_turners ⟨Nat.le_of_ble_eq_true rfl, Nat.le_of_ble_eq_true rfl⟩) [0, 1, 2, 3, 4, 5, 6, 7, 8, 9, 10, 11, 12] hP hS (by decide) rfl rfl 0 rfl rfl rfl hl.1 (Nat.le_of_ble_eq_true rfl) ⟨Nat.le_refl _, Nat.le_refl _⟩ rfl dL_law_719 (fun H locs hP hS => ?_)
  have hP : WD D A (wl cI cJ a hi (nI K) np nh na ns nd x9 y9 nc nk nf nl ne o19 o29 o39 o49 o59 o69 o79 o89 o99 o109 o119 o129 kp kh ka ks kd kx ky kc kk kf kl ke (nI L) sg wA wC wN ld nu en rf (rw1 t) (rw1 u) (rw1 im) (rw1 wa) hi sg nu rf (nI L) (nI K) rd n3 sd) H := hP
  refine lv_aload_n hx hb dL_law_722 rfl (lv_at hl 3 rfl) ?_
  refine cV_i (As := []) (rest := [.int r9]) F (kX5_turners l D cI cJ H.size g (a 28) (a 29) (a 30) (a 31) (a 32) (a 33) (a 34) (a 35) (a 36) hi (nI L) (nI K) rd sd (rw1 t)  _ h5) (cwV 0 hts gL_law_X5_turners rfl rfl rfl eVX5_turners ⟨Nat.le_of_ble_eq_true rfl, Nat.le_of_ble_eq_true rfl⟩) [28, 29] hP hS (by decide) rfl rfl 0 rfl rfl rfl hl.1 (Nat.le_of_ble_eq_true rfl) ⟨Nat.le_refl _, Nat.le_refl _⟩ rfl dL_law_723 (fun H locs hP hS => ?_)
  have hP : WD D A (wl cI cJ a hi (nI K) np nh na ns nd x9 y9 nc nk nf nl ne o19 o29 o39 o49 o59 o69 o79 o89 o99 o109 o119 o129 kp kh ka ks kd kx ky kc kk kf kl ke (nI L) sg wA wC wN ld nu en rf (rw1 t) (rw1 u) (rw1 im) (rw1 wa) hi sg nu rf (nI L) (nI K) rd n3 sd) H := hP
  refine lv_icmp_eq (tgt := 1190) hx hb dL_law_726 (by decide) (fun _ => ?_) (fun h => absurd rfl h)
  exact ct H locs ⟨t, u, im, wa, L, K, hi, np, nh, na, ns, nd, x9, y9, o19, o29, o39, o49, o59, o69, o79, kp, kh, ka, ks, kd, kx, ky, ld, rd, sd, nc, nk, nf, nl, ne, o89, o99, o109, o119, o129, kc, kk, kf, kl, ke, sg, nu, en, rf, n3, wA, wC, wN, w, ht, R, T, hK, hu, him45, hwa, h01, him, hP⟩ hS
set_option maxHeartbeats 4000000 in
set_option maxRecDepth 100000 in
theorem lc_pull (hg : big g) (F : Cx p s m #[Value.ref b] c code 4 wsL_law RL D (tyL cI cJ) A) (hX : va_X b Lx xs s s.heap) (hbl : b < s.heap.size) (hbA : ¬ A b) (hi1 : vp_in (i + 1) Lx) (hi2 : vp_in (i + 2) Lx) (hi3 : vp_in (i + 3) Lx) (hi4 : vp_in (i + 4) Lx) (hl : lv_has ls 4 [(3, .int i), (0, .ref b), (1, .ref (a 0)), (2, .ref (a 28))]) (hI : LI D A cI cJ a H) (hS : va_S A s.heap H locs) (ct : ∀ (H : Heap) (locs : List Loc), LI D A cI cJ a H → va_S A s.heap H locs → W p l e room_1 s m #[Value.ref b] below meth c H locs 37 721 Q (F0 m 1190 ls [])) : W p l e room_1 s m #[Value.ref b] below meth c H locs 37 721 Q (F0 m 731 ls []) := by
  have hx := F.1.1
  have hb := F.1.2.1
  have hts := F.1.2.2.2.2
  obtain ⟨t, u, im, wa, L, K, hi, np, nh, na, ns, nd, nx, ny, tp, th, ta, ts, td, tx, ty, kp, kh, ka, ks, kd, kx, ky, ld, rd, sd, nc, nk, nf, nl, ne, tc, tk, tf, tl, te, kc, kk, kf, kl, ke, sg, nu, en, rf, n3, wA, wC, wN, w, ht, R, T, hK, hu, him45, hwa, h01, him, hP⟩ := hI
  obtain ⟨r9, x9, y9, rf9, h4, h5⟩ := oPull (g := g) w hg R rf (xs (i + 1).toNatClampNeg) nx ny
  refine lv_aload_n hx hb dL_law_731 rfl (lv_at hl 2 rfl) ?_
  refine lv_aload_n hx hb dL_law_732 rfl (lv_at hl 1 rfl) ?_
  refine lv_iload_n hx hb dL_law_733 rfl (lv_at hl 0 rfl) ?_
  refine lv_iconst (v := 1) hx hb dL_law_734 (by decide) ?_
  refine lv_iadd hx hb dL_law_735 ?_
  refine va_sld hx hb hX hbl hbA hS hi1 dL_law_736 ?_
  refine cV_i (As := [.int (xs (i + 1).toNatClampNeg)]) (rest := []) F (kX4_pull l D cI cJ H.size g (a 0) (a 1) (a 7) (a 13) (a 19) (a 21) (a 24) (a 25) (a 26) (a 27) (a 2) (a 3) (a 4) (a 5) (a 6) hi (nI K) np nh na ns nd nx ny nc nk nf nl ne rf (xs (i + 1).toNatClampNeg) _ _ _ _ h4) (cwV 1 hts gL_law_X4_pull rfl rfl rfl eVX4_pull ⟨Nat.le_of_ble_eq_true rfl, Nat.le_of_ble_eq_true rfl⟩) [0, 1, 2, 3, 4, 5, 6, 27] hP hS (by decide) rfl rfl 0 rfl rfl rfl hl.1 (Nat.le_of_ble_eq_true rfl) ⟨Nat.le_refl _, Nat.le_refl _⟩ rfl dL_law_737 (fun H locs hP hS => ?_)
  have hP : WD D A (wl cI cJ a hi (nI K) np nh na ns nd x9 y9 nc nk nf nl ne tp th ta ts td tx ty tc tk tf tl te kp kh ka ks kd kx ky kc kk kf kl ke (nI L) sg wA wC wN ld nu en rf9 (rw1 t) (rw1 u) (rw1 im) (rw1 wa) hi sg nu rf (nI L) (nI K) rd n3 sd) H := hP
  refine lv_aload_n hx hb dL_law_740 rfl (lv_at hl 3 rfl) ?_
  refine lv_aload_n hx hb dL_law_741 rfl (lv_at hl 1 rfl) ?_
  refine lv_iload_n hx hb dL_law_742 rfl (lv_at hl 0 rfl) ?_
  refine lv_iconst (v := 1) hx hb dL_law_743 (by decide) ?_
  refine lv_iadd hx hb dL_law_744 ?_
  refine va_sld hx hb hX hbl hbA hS hi1 dL_law_745 ?_
  refine cV_i (As := [.int (xs (i + 1).toNatClampNeg)]) (rest := [.int r9]) F (kX5_pull l D cI cJ H.size g (a 28) (a 29) (a 30) (a 31) (a 32) (a 33) (a 34) (a 35) (a 36) hi (nI L) (nI K) rd sd (rw1 t) rf (xs (i + 1).toNatClampNeg) _ _ h5) (cwV 1 hts gL_law_X5_pull rfl rfl rfl eVX5_pull ⟨Nat.le_of_ble_eq_true rfl, Nat.le_of_ble_eq_true rfl⟩) [28, 29, 35] hP hS (by decide) rfl rfl 0 rfl rfl rfl hl.1 (Nat.le_of_ble_eq_true rfl) ⟨Nat.le_refl _, Nat.le_refl _⟩ rfl dL_law_746 (fun H locs hP hS => ?_)
  have hP : WD D A (wl cI cJ a hi (nI K) np nh na ns nd x9 y9 nc nk nf nl ne tp th ta ts td tx ty tc tk tf tl te kp kh ka ks kd kx ky kc kk kf kl ke (nI L) sg wA wC wN ld nu en rf9 (rw1 t) (rw1 u) (rw1 im) (rw1 wa) hi sg nu rf9 (nI L) (nI K) rd n3 sd) H := hP
  refine lv_icmp_eq (tgt := 1190) hx hb dL_law_749 (by decide) (fun _ => ?_) (fun h => absurd rfl h)
  exact ct H locs ⟨t, u, im, wa, L, K, hi, np, nh, na, ns, nd, x9, y9, tp, th, ta, ts, td, tx, ty, kp, kh, ka, ks, kd, kx, ky, ld, rd, sd, nc, nk, nf, nl, ne, tc, tk, tf, tl, te, kc, kk, kf, kl, ke, sg, nu, en, rf9, n3, wA, wC, wN, w, ht, R, T, hK, hu, him45, hwa, h01, him, hP⟩ hS
set_option maxHeartbeats 4000000 in
set_option maxRecDepth 100000 in
theorem lc_strongest (hg : big g) (F : Cx p s m #[Value.ref b] c code 4 wsL_law RL D (tyL cI cJ) A) (hX : va_X b Lx xs s s.heap) (hbl : b < s.heap.size) (hbA : ¬ A b) (hi1 : vp_in (i + 1) Lx) (hi2 : vp_in (i + 2) Lx) (hi3 : vp_in (i + 3) Lx) (hi4 : vp_in (i + 4) Lx) (hl : lv_has ls 4 [(3, .int i), (0, .ref b), (1, .ref (a 0)), (2, .ref (a 28))]) (hI : LI D A cI cJ a H) (hS : va_S A s.heap H locs) (ct : ∀ (H : Heap) (locs : List Loc), LI D A cI cJ a H → va_S A s.heap H locs → W p l e room_1 s m #[Value.ref b] below meth c H locs 37 721 Q (F0 m 1190 ls [])) : W p l e room_1 s m #[Value.ref b] below meth c H locs 37 721 Q (F0 m 754 ls []) := by
  have hx := F.1.1
  have hb := F.1.2.1
  have hts := F.1.2.2.2.2
  obtain ⟨t, u, im, wa, L, K, hi, np, nh, na, ns, nd, nx, ny, tp, th, ta, ts, td, tx, ty, kp, kh, ka, ks, kd, kx, ky, ld, rd, sd, nc, nk, nf, nl, ne, tc, tk, tf, tl, te, kc, kk, kf, kl, ke, sg, nu, en, rf, n3, wA, wC, wN, w, ht, R, T, hK, hu, him45, hwa, h01, him, hP⟩ := hI
  obtain ⟨r9, h4, h5⟩ := oStrongest (g := g) w hg R
  refine lv_aload_n hx hb dL_law_754 rfl (lv_at hl 2 rfl) ?_
  refine cV_i (As := []) (rest := []) F (kX4_strongest l D cI cJ H.size g (a 0) (a 1) (a 7) (a 13) (a 19) (a 21) (a 24) (a 25) (a 26) (a 27) (a 2) (a 3) (a 4) (a 5) (a 6) hi (nI K) np nh na ns nd nx ny nc nk nf nl ne  _ h4) (cwV 0 hts gL_law_X4_strongest rfl rfl rfl eVX4_strongest ⟨Nat.le_of_ble_eq_true rfl, Nat.le_of_ble_eq_true rfl⟩) [0, 1, 2, 3, 4, 5, 6] hP hS (by decide) rfl rfl 0 rfl rfl rfl hl.1 (Nat.le_of_ble_eq_true rfl) ⟨Nat.le_refl _, Nat.le_refl _⟩ rfl dL_law_755 (fun H locs hP hS => ?_)
  have hP : WD D A (wl cI cJ a hi (nI K) np nh na ns nd nx ny nc nk nf nl ne tp th ta ts td tx ty tc tk tf tl te kp kh ka ks kd kx ky kc kk kf kl ke (nI L) sg wA wC wN ld nu en rf (rw1 t) (rw1 u) (rw1 im) (rw1 wa) hi sg nu rf (nI L) (nI K) rd n3 sd) H := hP
  refine lv_aload_n hx hb dL_law_758 rfl (lv_at hl 3 rfl) ?_
  refine cV_i (As := []) (rest := [.int r9]) F (kX5_strongest l D cI cJ H.size g (a 28) (a 29) (a 30) (a 31) (a 32) (a 33) (a 34) (a 35) (a 36) hi (nI L) (nI K) rd sd (rw1 t)  _ h5) (cwV 0 hts gL_law_X5_strongest rfl rfl rfl eVX5_strongest ⟨Nat.le_of_ble_eq_true rfl, Nat.le_of_ble_eq_true rfl⟩) [28, 29] hP hS (by decide) rfl rfl 0 rfl rfl rfl hl.1 (Nat.le_of_ble_eq_true rfl) ⟨Nat.le_refl _, Nat.le_refl _⟩ rfl dL_law_759 (fun H locs hP hS => ?_)
  have hP : WD D A (wl cI cJ a hi (nI K) np nh na ns nd nx ny nc nk nf nl ne tp th ta ts td tx ty tc tk tf tl te kp kh ka ks kd kx ky kc kk kf kl ke (nI L) sg wA wC wN ld nu en rf (rw1 t) (rw1 u) (rw1 im) (rw1 wa) hi sg nu rf (nI L) (nI K) rd n3 sd) H := hP
  refine lv_icmp_eq (tgt := 1190) hx hb dL_law_762 (by decide) (fun _ => ?_) (fun h => absurd rfl h)
  exact ct H locs ⟨t, u, im, wa, L, K, hi, np, nh, na, ns, nd, nx, ny, tp, th, ta, ts, td, tx, ty, kp, kh, ka, ks, kd, kx, ky, ld, rd, sd, nc, nk, nf, nl, ne, tc, tk, tf, tl, te, kc, kk, kf, kl, ke, sg, nu, en, rf, n3, wA, wC, wN, w, ht, R, T, hK, hu, him45, hwa, h01, him, hP⟩ hS
set_option maxHeartbeats 4000000 in
set_option maxRecDepth 100000 in
theorem lc_missed (hg : big g) (F : Cx p s m #[Value.ref b] c code 4 wsL_law RL D (tyL cI cJ) A) (hX : va_X b Lx xs s s.heap) (hbl : b < s.heap.size) (hbA : ¬ A b) (hi1 : vp_in (i + 1) Lx) (hi2 : vp_in (i + 2) Lx) (hi3 : vp_in (i + 3) Lx) (hi4 : vp_in (i + 4) Lx) (hl : lv_has ls 4 [(3, .int i), (0, .ref b), (1, .ref (a 0)), (2, .ref (a 28))]) (hI : LI D A cI cJ a H) (hS : va_S A s.heap H locs) (ct : ∀ (H : Heap) (locs : List Loc), LI D A cI cJ a H → va_S A s.heap H locs → W p l e room_1 s m #[Value.ref b] below meth c H locs 37 721 Q (F0 m 1190 ls [])) : W p l e room_1 s m #[Value.ref b] below meth c H locs 37 721 Q (F0 m 767 ls []) := by
  have hx := F.1.1
  have hb := F.1.2.1
  have hts := F.1.2.2.2.2
  obtain ⟨t, u, im, wa, L, K, hi, np, nh, na, ns, nd, nx, ny, tp, th, ta, ts, td, tx, ty, kp, kh, ka, ks, kd, kx, ky, ld, rd, sd, nc, nk, nf, nl, ne, tc, tk, tf, tl, te, kc, kk, kf, kl, ke, sg, nu, en, rf, n3, wA, wC, wN, w, ht, R, T, hK, hu, him45, hwa, h01, him, hP⟩ := hI
  obtain ⟨r9, rf9, h4, h5⟩ := oMissed (g := g) w hg R rf (xs (i + 1).toNatClampNeg)
  refine lv_aload_n hx hb dL_law_767 rfl (lv_at hl 2 rfl) ?_
  refine lv_aload_n hx hb dL_law_768 rfl (lv_at hl 1 rfl) ?_
  refine lv_iload_n hx hb dL_law_769 rfl (lv_at hl 0 rfl) ?_
  refine lv_iconst (v := 1) hx hb dL_law_770 (by decide) ?_
  refine lv_iadd hx hb dL_law_771 ?_
  refine va_sld hx hb hX hbl hbA hS hi1 dL_law_772 ?_
  refine cV_i (As := [.int (xs (i + 1).toNatClampNeg)]) (rest := []) F (kX4_missed l D cI cJ H.size g (a 0) (a 1) (a 7) (a 13) (a 19) (a 21) (a 24) (a 25) (a 26) (a 27) (a 2) (a 3) (a 4) (a 5) (a 6) hi (nI K) np nh na ns nd nx ny nc nk nf nl ne rf (xs (i + 1).toNatClampNeg) _ _ h4) (cwV 1 hts gL_law_X4_missed rfl rfl rfl eVX4_missed ⟨Nat.le_of_ble_eq_true rfl, Nat.le_of_ble_eq_true rfl⟩) [0, 1, 2, 3, 4, 5, 6, 27] hP hS (by decide) rfl rfl 0 rfl rfl rfl hl.1 (Nat.le_of_ble_eq_true rfl) ⟨Nat.le_refl _, Nat.le_refl _⟩ rfl dL_law_773 (fun H locs hP hS => ?_)
  have hP : WD D A (wl cI cJ a hi (nI K) np nh na ns nd nx ny nc nk nf nl ne tp th ta ts td tx ty tc tk tf tl te kp kh ka ks kd kx ky kc kk kf kl ke (nI L) sg wA wC wN ld nu en rf9 (rw1 t) (rw1 u) (rw1 im) (rw1 wa) hi sg nu rf (nI L) (nI K) rd n3 sd) H := hP
  refine lv_aload_n hx hb dL_law_776 rfl (lv_at hl 3 rfl) ?_
  refine lv_aload_n hx hb dL_law_777 rfl (lv_at hl 1 rfl) ?_
  refine lv_iload_n hx hb dL_law_778 rfl (lv_at hl 0 rfl) ?_
  refine lv_iconst (v := 1) hx hb dL_law_779 (by decide) ?_
  refine lv_iadd hx hb dL_law_780 ?_
  refine va_sld hx hb hX hbl hbA hS hi1 dL_law_781 ?_
  refine cV_i (As := [.int (xs (i + 1).toNatClampNeg)]) (rest := [.int r9]) F (kX5_missed l D cI cJ H.size g (a 28) (a 29) (a 30) (a 31) (a 32) (a 33) (a 34) (a 35) (a 36) hi (nI L) (nI K) rd sd (rw1 t) rf (xs (i + 1).toNatClampNeg) _ _ h5) (cwV 1 hts gL_law_X5_missed rfl rfl rfl eVX5_missed ⟨Nat.le_of_ble_eq_true rfl, Nat.le_of_ble_eq_true rfl⟩) [28, 29, 35] hP hS (by decide) rfl rfl 0 rfl rfl rfl hl.1 (Nat.le_of_ble_eq_true rfl) ⟨Nat.le_refl _, Nat.le_refl _⟩ rfl dL_law_782 (fun H locs hP hS => ?_)
  have hP : WD D A (wl cI cJ a hi (nI K) np nh na ns nd nx ny nc nk nf nl ne tp th ta ts td tx ty tc tk tf tl te kp kh ka ks kd kx ky kc kk kf kl ke (nI L) sg wA wC wN ld nu en rf9 (rw1 t) (rw1 u) (rw1 im) (rw1 wa) hi sg nu rf9 (nI L) (nI K) rd n3 sd) H := hP
  refine lv_icmp_eq (tgt := 1190) hx hb dL_law_785 (by decide) (fun _ => ?_) (fun h => absurd rfl h)
  exact ct H locs ⟨t, u, im, wa, L, K, hi, np, nh, na, ns, nd, nx, ny, tp, th, ta, ts, td, tx, ty, kp, kh, ka, ks, kd, kx, ky, ld, rd, sd, nc, nk, nf, nl, ne, tc, tk, tf, tl, te, kc, kk, kf, kl, ke, sg, nu, en, rf9, n3, wA, wC, wN, w, ht, R, T, hK, hu, him45, hwa, h01, him, hP⟩ hS
set_option maxHeartbeats 4000000 in
set_option maxRecDepth 100000 in
theorem lc_opposed (hg : big g) (F : Cx p s m #[Value.ref b] c code 4 wsL_law RL D (tyL cI cJ) A) (hX : va_X b Lx xs s s.heap) (hbl : b < s.heap.size) (hbA : ¬ A b) (hi1 : vp_in (i + 1) Lx) (hi2 : vp_in (i + 2) Lx) (hi3 : vp_in (i + 3) Lx) (hi4 : vp_in (i + 4) Lx) (hl : lv_has ls 4 [(3, .int i), (0, .ref b), (1, .ref (a 0)), (2, .ref (a 28))]) (hI : LI D A cI cJ a H) (hS : va_S A s.heap H locs) (ct : ∀ (H : Heap) (locs : List Loc), LI D A cI cJ a H → va_S A s.heap H locs → W p l e room_1 s m #[Value.ref b] below meth c H locs 37 721 Q (F0 m 1190 ls [])) : W p l e room_1 s m #[Value.ref b] below meth c H locs 37 721 Q (F0 m 790 ls []) := by
  have hx := F.1.1
  have hb := F.1.2.1
  have hts := F.1.2.2.2.2
  obtain ⟨t, u, im, wa, L, K, hi, np, nh, na, ns, nd, nx, ny, tp, th, ta, ts, td, tx, ty, kp, kh, ka, ks, kd, kx, ky, ld, rd, sd, nc, nk, nf, nl, ne, tc, tk, tf, tl, te, kc, kk, kf, kl, ke, sg, nu, en, rf, n3, wA, wC, wN, w, ht, R, T, hK, hu, him45, hwa, h01, him, hP⟩ := hI
  obtain ⟨r9, h4, h5⟩ := oOpposed (g := g) w hg R
  refine lv_aload_n hx hb dL_law_790 rfl (lv_at hl 2 rfl) ?_
  refine cV_i (As := []) (rest := []) F (kX4_opposed l D cI cJ H.size g (a 0) (a 1) (a 7) (a 13) (a 19) (a 21) (a 24) (a 25) (a 26) (a 27) (a 2) (a 3) (a 4) (a 5) (a 6) hi (nI K) np nh na ns nd nx ny nc nl  _ h4) (cwV 0 hts gL_law_X4_opposed rfl rfl rfl eVX4_opposed ⟨Nat.le_of_ble_eq_true rfl, Nat.le_of_ble_eq_true rfl⟩) [0, 1, 2, 5] hP hS (by decide) rfl rfl 0 rfl rfl rfl hl.1 (Nat.le_of_ble_eq_true rfl) ⟨Nat.le_refl _, Nat.le_refl _⟩ rfl dL_law_791 (fun H locs hP hS => ?_)
  have hP : WD D A (wl cI cJ a hi (nI K) np nh na ns nd nx ny nc nk nf nl ne tp th ta ts td tx ty tc tk tf tl te kp kh ka ks kd kx ky kc kk kf kl ke (nI L) sg wA wC wN ld nu en rf (rw1 t) (rw1 u) (rw1 im) (rw1 wa) hi sg nu rf (nI L) (nI K) rd n3 sd) H := hP
  refine lv_aload_n hx hb dL_law_794 rfl (lv_at hl 3 rfl) ?_
  refine cV_i (As := []) (rest := [.int r9]) F (kX5_opposed l D cI cJ H.size g (a 28) (a 29) (a 30) (a 31) (a 32) (a 33) (a 34) (a 35) (a 36) hi (nI L) (nI K) rd sd (rw1 t)  _ h5) (cwV 0 hts gL_law_X5_opposed rfl rfl rfl eVX5_opposed ⟨Nat.le_of_ble_eq_true rfl, Nat.le_of_ble_eq_true rfl⟩) [28, 29] hP hS (by decide) rfl rfl 0 rfl rfl rfl hl.1 (Nat.le_of_ble_eq_true rfl) ⟨Nat.le_refl _, Nat.le_refl _⟩ rfl dL_law_795 (fun H locs hP hS => ?_)
  have hP : WD D A (wl cI cJ a hi (nI K) np nh na ns nd nx ny nc nk nf nl ne tp th ta ts td tx ty tc tk tf tl te kp kh ka ks kd kx ky kc kk kf kl ke (nI L) sg wA wC wN ld nu en rf (rw1 t) (rw1 u) (rw1 im) (rw1 wa) hi sg nu rf (nI L) (nI K) rd n3 sd) H := hP
  refine lv_icmp_eq (tgt := 1190) hx hb dL_law_798 (by decide) (fun _ => ?_) (fun h => absurd rfl h)
  exact ct H locs ⟨t, u, im, wa, L, K, hi, np, nh, na, ns, nd, nx, ny, tp, th, ta, ts, td, tx, ty, kp, kh, ka, ks, kd, kx, ky, ld, rd, sd, nc, nk, nf, nl, ne, tc, tk, tf, tl, te, kc, kk, kf, kl, ke, sg, nu, en, rf, n3, wA, wC, wN, w, ht, R, T, hK, hu, him45, hwa, h01, him, hP⟩ hS
end PLW
