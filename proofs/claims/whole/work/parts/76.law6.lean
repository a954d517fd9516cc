/-! ===== the law: its calls (6); laid by mklaw.py ===== -/
section PLW
variable {p : Program} {l : Launch} {e : Env} {s : State} {m : MethodId} {below : List Frame} {meth : Method} {c : Code} {H : Heap} {locs : List Loc} {Q : State → Prop} {ls : Array Slot} {D : va_G} {A : Nat → Prop} {cI cJ : ClassId} {b Lx : Nat} {xs : Nat → Int32} {a : Nat → Nat} {i : Int32} {g : Nat}
set_option maxHeartbeats 4000000 in
set_option maxRecDepth 100000 in
theorem lc_sign (hg : big g) (F : Cx p s m #[Value.ref b] c code 4 wsL_law RL D (tyL cI cJ) A) (hX : va_X b Lx xs s s.heap) (hbl : b < s.heap.size) (hbA : ¬ A b) (hi1 : vp_in (i + 1) Lx) (hi2 : vp_in (i + 2) Lx) (hi3 : vp_in (i + 3) Lx) (hi4 : vp_in (i + 4) Lx) (hl : lv_has ls 4 [(3, .int i), (0, .ref b), (1, .ref (a 0)), (2, .ref (a 28))]) (hI : LI D A cI cJ a H) (hS : va_S A s.heap H locs) (ct : ∀ (H : Heap) (locs : List Loc), LI D A cI cJ a H → va_S A s.heap H locs → W p l e room_1 s m #[Value.ref b] below meth c H locs 37 721 Q (F0 m 1190 ls [])) : W p l e room_1 s m #[Value.ref b] below meth c H locs 37 721 Q (F0 m 803 ls []) := by
  have hx := F.1.1
  have hb := F.1.2.1
  have hts := F.1.2.2.2.2
  obtain ⟨t, u, im, wa, L, K, hi, np, nh, na, ns, nd, nx, ny, tp, th, ta, ts, td, tx, ty, kp, kh, ka, ks, kd, kx, ky, ld, rd, sd, nc, nk, nf, nl, ne, tc, tk, tf, tl, te, kc, kk, kf, kl, ke, sg, nu, en, rf, n3, wA, wC, wN, w, ht, R, T, hK, hu, him45, hwa, h01, him, hP⟩ := hI
  obtain ⟨r9, u9, rf9, o19, o29, o39, o49, o59, o69, o79, o89, o99, o109, o119, o129, h4, h5, hu9⟩ := oSign (g := g) w hg R rf (xs (i + 1).toNatClampNeg) (xs (i + 2).toNatClampNeg) tp th ta ts td tx ty tc tk tf tl te hu
  refine lv_aload_n hx hb dL_law_803 rfl (lv_at hl 2 rfl) ?_
  refine lv_aload_n hx hb dL_law_804 rfl (lv_at hl 1 rfl) ?_
  refine lv_iload_n hx hb dL_law_805 rfl (lv_at hl 0 rfl) ?_
  refine lv_iconst (v := 1) hx hb dL_law_806 (by decide) ?_
  refine lv_iadd hx hb dL_law_807 ?_
  refine va_sld hx hb hX hbl hbA hS hi1 dL_law_808 ?_
  refine lv_aload_n hx hb dL_law_809 rfl (lv_at hl 1 rfl) ?_
  refine lv_iload_n hx hb dL_law_810 rfl (lv_at hl 0 rfl) ?_
  refine lv_iconst (v := 2) hx hb dL_law_811 (by decide) ?_
  refine lv_iadd hx hb dL_law_812 ?_
  refine va_sld hx hb hX hbl hbA hS hi2 dL_law_813 ?_
  refine cV_i (As := [.int (xs (i + 1).toNatClampNeg), .int (xs (i + 2).toNatClampNeg)]) (rest := []) F (kX4_sign l D cI cJ H.size g (a 0) (a 1) (a 7) (a 13) (a 19) (a 21) (a 24) (a 25) (a 26) (a 27) (a 2) (a 3) (a 4) (a 5) (a 6) (a 8) (a 9) (a 10) (a 11) (a 12) hi (nI K) np nh na ns nd nx ny nc nk nf nl ne tp th ta ts td tx ty tc tk tf tl te rf (xs (i + 1).toNatClampNeg) (xs (i + 2).toNatClampNeg) _ _ _ _ _ _ _ _ _ _ _ _ _ _ h4) (cwV 2 hts gL_law_X4_sign rfl rfl rfl eVX4_sign ⟨Nat.le_of_ble_eq_true rfl, Nat.le_of_ble_eq_true rfl⟩) [0, 1, 2, 3, 4, 5, 6, 7, 8, 9, 10, 11, 12, 27] hP hS (by decide) rfl rfl 0 rfl rfl rfl hl.1 (Nat.le_of_ble_eq_true rfl) ⟨Nat.le_refl _, Nat.le_refl _⟩ rfl dL_law_814 (fun H locs hP hS => ?_)
  have hP : WD D A (wl cI cJ a hi (nI K) np nh na ns nd nx ny nc nk nf nl ne o19 o29 o39 o49 o59 o69 o79 o89 o99 o109 o119 o129 kp kh ka ks kd kx ky kc kk kf kl ke (nI L) sg wA wC wN ld nu en rf9 (rw1 t) (rw1 u) (rw1 im) (rw1 wa) hi sg nu rf (nI L) (nI K) rd n3 sd) H := hP
  refine lv_aload_n hx hb dL_law_817 rfl (lv_at hl 3 rfl) ?_
  refine lv_aload_n hx hb dL_law_818 rfl (lv_at hl 1 rfl) ?_
  refine lv_iload_n hx hb dL_law_819 rfl (lv_at hl 0 rfl) ?_
  refine lv_iconst (v := 1) hx hb dL_law_820 (by decide) ?_
  refine lv_iadd hx hb dL_law_821 ?_
  refine va_sld hx hb hX hbl hbA hS hi1 dL_law_822 ?_
  refine lv_aload_n hx hb dL_law_823 rfl (lv_at hl 1 rfl) ?_
  refine lv_iload_n hx hb dL_law_824 rfl (lv_at hl 0 rfl) ?_
  refine lv_iconst (v := 2) hx hb dL_law_825 (by decide) ?_
  refine lv_iadd hx hb dL_law_826 ?_
  refine va_sld hx hb hX hbl hbA hS hi2 dL_law_827 ?_
  refine cV_i (As := [.int (xs (i + 1).toNatClampNeg), .int (xs (i + 2).toNatClampNeg)]) (rest := [.int r9]) F (kX5_sign l D cI cJ H.size g (a 28) (a 29) (a 30) (a 31) (a 32) (a 33) (a 34) (a 35) (a 36) hi (nI L) (nI K) rd sd (rw1 t) (rw1 u) rf (xs (i + 1).toNatClampNeg) (xs (i + 2).toNatClampNeg) _ _ _ h5) (cwV 2 hts gL_law_X5_sign rfl rfl rfl eVX5_sign ⟨Nat.le_of_ble_eq_true rfl, Nat.le_of_ble_eq_true rfl⟩) [28, 29, 30, 35] hP hS (by decide) rfl rfl 0 rfl rfl rfl hl.1 (Nat.le_of_ble_eq_true rfl) ⟨Nat.le_refl _, Nat.le_refl _⟩ rfl dL_law_828 (fun H locs hP hS => ?_)
  have hP : WD D A (wl cI cJ a hi (nI K) np nh na ns nd nx ny nc nk nf nl ne o19 o29 o39 o49 o59 o69 o79 o89 o99 o109 o119 o129 kp kh ka ks kd kx ky kc kk kf kl ke (nI L) sg wA wC wN ld nu en rf9 (rw1 t) (rw1 u9) (rw1 im) (rw1 wa) hi sg nu rf9 (nI L) (nI K) rd n3 sd) H := hP
  refine lv_icmp_eq (tgt := 1190) hx hb dL_law_831 (by decide) (fun _ => ?_) (fun h => absurd rfl h)
  exact ct H locs ⟨t, u9, im, wa, L, K, hi, np, nh, na, ns, nd, nx, ny, o19, o29, o39, o49, o59, o69, o79, kp, kh, ka, ks, kd, kx, ky, ld, rd, sd, nc, nk, nf, nl, ne, o89, o99, o109, o119, o129, kc, kk, kf, kl, ke, sg, nu, en, rf9, n3, wA, wC, wN, w, ht, R, T, hK, hu9, him45, hwa, h01, him, hP⟩ hS
set_option maxHeartbeats 4000000 in
set_option maxRecDepth 100000 in
theorem lc_home (hg : big g) (F : Cx p s m #[Value.ref b] c code 4 wsL_law RL D (tyL cI cJ) A) (hX : va_X b Lx xs s s.heap) (hbl : b < s.heap.size) (hbA : ¬ A b) (hi1 : vp_in (i + 1) Lx) (hi2 : vp_in (i + 2) Lx) (hi3 : vp_in (i + 3) Lx) (hi4 : vp_in (i + 4) Lx) (hl : lv_has ls 4 [(3, .int i), (0, .ref b), (1, .ref (a 0)), (2, .ref (a 28))]) (hI : LI D A cI cJ a H) (hS : va_S A s.heap H locs) (ct : ∀ (H : Heap) (locs : List Loc), LI D A cI cJ a H → va_S A s.heap H locs → W p l e room_1 s m #[Value.ref b] below meth c H locs 37 721 Q (F0 m 1190 ls [])) : W p l e room_1 s m #[Value.ref b] below meth c H locs 37 721 Q (F0 m 836 ls []) := by
  have hx := F.1.1
  have hb := F.1.2.1
  have hts := F.1.2.2.2.2
  obtain ⟨t, u, im, wa, L, K, hi, np, nh, na, ns, nd, nx, ny, tp, th, ta, ts, td, tx, ty, kp, kh, ka, ks, kd, kx, ky, ld, rd, sd, nc, nk, nf, nl, ne, tc, tk, tf, tl, te, kc, kk, kf, kl, ke, sg, nu, en, rf, n3, wA, wC, wN, w, ht, R, T, hK, hu, him45, hwa, h01, him, hP⟩ := hI
  obtain ⟨r9, rf9, h4, h5⟩ := oHome (g := g) w R rf (xs (i + 1).toNatClampNeg)
  refine lv_aload_n hx hb dL_law_836 rfl (lv_at hl 2 rfl) ?_
  refine lv_aload_n hx hb dL_law_837 rfl (lv_at hl 1 rfl) ?_
  refine lv_iload_n hx hb dL_law_838 rfl (lv_at hl 0 rfl) ?_
  refine lv_iconst (v := 1) hx hb dL_law_839 (by decide) ?_
  refine lv_iadd hx hb dL_law_840 ?_
  refine va_sld hx hb hX hbl hbA hS hi1 dL_law_841 ?_
  refine cV_i (As := [.int (xs (i + 1).toNatClampNeg)]) (rest := []) F (kX4_home l D cI cJ H.size g (a 0) (a 1) (a 7) (a 13) (a 19) (a 21) (a 24) (a 25) (a 26) (a 27) (a 2) (a 3) (a 4) (a 5) (a 6) hi (nI K) np nh na ns nd nx ny nc nl rf (xs (i + 1).toNatClampNeg) _ _ h4) (cwV 1 hts gL_law_X4_home rfl rfl rfl eVX4_home ⟨Nat.le_of_ble_eq_true rfl, Nat.le_of_ble_eq_true rfl⟩) [0, 1, 2, 5, 27] hP hS (by decide) rfl rfl 0 rfl rfl rfl hl.1 (Nat.le_of_ble_eq_true rfl) ⟨Nat.le_refl _, Nat.le_refl _⟩ rfl dL_law_842 (fun H locs hP hS => ?_)
  have hP : WD D A (wl cI cJ a hi (nI K) np nh na ns nd nx ny nc nk nf nl ne tp th ta ts td tx ty tc tk tf tl te kp kh ka ks kd kx ky kc kk kf kl ke (nI L) sg wA wC wN ld nu en rf9 (rw1 t) (rw1 u) (rw1 im) (rw1 wa) hi sg nu rf (nI L) (nI K) rd n3 sd) H := hP
  refine lv_aload_n hx hb dL_law_845 rfl (lv_at hl 3 rfl) ?_
  refine lv_aload_n hx hb dL_law_846 rfl (lv_at hl 1 rfl) ?_
  refine lv_iload_n hx hb dL_law_847 rfl (lv_at hl 0 rfl) ?_
  refine lv_iconst (v := 1) hx hb dL_law_848 (by decide) ?_
  refine lv_iadd hx hb dL_law_849 ?_
  refine va_sld hx hb hX hbl hbA hS hi1 dL_law_850 ?_
  refine cV_i (As := [.int (xs (i + 1).toNatClampNeg)]) (rest := [.int r9]) F (kX5_home l D cI cJ H.size g (a 28) (a 29) (a 30) (a 31) (a 32) (a 33) (a 34) (a 35) (a 36) hi (nI L) (nI K) rd sd (rw1 t) rf (xs (i + 1).toNatClampNeg) _ _ h5) (cwV 1 hts gL_law_X5_home rfl rfl rfl eVX5_home ⟨Nat.le_of_ble_eq_true rfl, Nat.le_of_ble_eq_true rfl⟩) [28, 29, 35] hP hS (by decide) rfl rfl 0 rfl rfl rfl hl.1 (Nat.le_of_ble_eq_true rfl) ⟨Nat.le_refl _, Nat.le_refl _⟩ rfl dL_law_851 (fun H locs hP hS => ?_)
  have hP : WD D A (wl cI cJ a hi (nI K) np nh na ns nd nx ny nc nk nf nl ne tp th ta ts td tx ty tc tk tf tl te kp kh ka ks kd kx ky kc kk kf kl ke (nI L) sg wA wC wN ld nu en rf9 (rw1 t) (rw1 u) (rw1 im) (rw1 wa) hi sg nu rf9 (nI L) (nI K) rd n3 sd) H := hP
  refine lv_icmp_eq (tgt := 1190) hx hb dL_law_854 (by decide) (fun _ => ?_) (fun h => absurd rfl h)
  exact ct H locs ⟨t, u, im, wa, L, K, hi, np, nh, na, ns, nd, nx, ny, tp, th, ta, ts, td, tx, ty, kp, kh, ka, ks, kd, kx, ky, ld, rd, sd, nc, nk, nf, nl, ne, tc, tk, tf, tl, te, kc, kk, kf, kl, ke, sg, nu, en, rf9, n3, wA, wC, wN, w, ht, R, T, hK, hu, him45, hwa, h01, him, hP⟩ hS
set_option maxHeartbeats 4000000 in
set_option maxRecDepth 100000 in
theorem lc_nearest (hg : big g) (F : Cx p s m #[Value.ref b] c code 4 wsL_law RL D (tyL cI cJ) A) (hX : va_X b Lx xs s s.heap) (hbl : b < s.heap.size) (hbA : ¬ A b) (hi1 : vp_in (i + 1) Lx) (hi2 : vp_in (i + 2) Lx) (hi3 : vp_in (i + 3) Lx) (hi4 : vp_in (i + 4) Lx) (hl : lv_has ls 4 [(3, .int i), (0, .ref b), (1, .ref (a 0)), (2, .ref (a 28))]) (hI : LI D A cI cJ a H) (hS : va_S A s.heap H locs) (ct : ∀ (H : Heap) (locs : List Loc), LI D A cI cJ a H → va_S A s.heap H locs → W p l e room_1 s m #[Value.ref b] below meth c H locs 37 721 Q (F0 m 1190 ls [])) : W p l e room_1 s m #[Value.ref b] below meth c H locs 37 721 Q (F0 m 859 ls []) := by
  have hx := F.1.1
  have hb := F.1.2.1
  have hts := F.1.2.2.2.2
  obtain ⟨t, u, im, wa, L, K, hi, np, nh, na, ns, nd, nx, ny, tp, th, ta, ts, td, tx, ty, kp, kh, ka, ks, kd, kx, ky, ld, rd, sd, nc, nk, nf, nl, ne, tc, tk, tf, tl, te, kc, kk, kf, kl, ke, sg, nu, en, rf, n3, wA, wC, wN, w, ht, R, T, hK, hu, him45, hwa, h01, him, hP⟩ := hI
  obtain ⟨r9, h4, h5⟩ := oNearest (g := g) w hg R
  refine lv_aload_n hx hb dL_law_859 rfl (lv_at hl 2 rfl) ?_
  refine cV_i (As := []) (rest := []) F (kX4_nearest l D cI cJ H.size g (a 0) (a 1) (a 7) (a 13) (a 19) (a 21) (a 24) (a 25) (a 26) (a 27) (a 2) (a 3) (a 4) (a 5) (a 6) hi (nI K) np nh na ns nd nx ny nc  _ h4) (cwV 0 hts gL_law_X4_nearest rfl rfl rfl eVX4_nearest ⟨Nat.le_of_ble_eq_true rfl, Nat.le_of_ble_eq_true rfl⟩) [0, 1, 2] hP hS (by decide) rfl rfl 0 rfl rfl rfl hl.1 (Nat.le_of_ble_eq_true rfl) ⟨Nat.le_refl _, Nat.le_refl _⟩ rfl dL_law_860 (fun H locs hP hS => ?_)
  have hP : WD D A (wl cI cJ a hi (nI K) np nh na ns nd nx ny nc nk nf nl ne tp th ta ts td tx ty tc tk tf tl te kp kh ka ks kd kx ky kc kk kf kl ke (nI L) sg wA wC wN ld nu en rf (rw1 t) (rw1 u) (rw1 im) (rw1 wa) hi sg nu rf (nI L) (nI K) rd n3 sd) H := hP
  refine lv_aload_n hx hb dL_law_863 rfl (lv_at hl 3 rfl) ?_
  refine cV_i (As := []) (rest := [.int r9]) F (kX5_nearest l D cI cJ H.size g (a 28) (a 29) (a 30) (a 31) (a 32) (a 33) (a 34) (a 35) (a 36) hi (nI L) (nI K) rd sd (rw1 t)  _ h5) (cwV 0 hts gL_law_X5_nearest rfl rfl rfl eVX5_nearest ⟨Nat.le_of_ble_eq_true rfl, Nat.le_of_ble_eq_true rfl⟩) [28, 29] hP hS (by decide) rfl rfl 0 rfl rfl rfl hl.1 (Nat.le_of_ble_eq_true rfl) ⟨Nat.le_refl _, Nat.le_refl _⟩ rfl dL_law_864 (fun H locs hP hS => ?_)
  have hP : WD D A (wl cI cJ a hi (nI K) np nh na ns nd nx ny nc nk nf nl ne tp th ta ts td tx ty tc tk tf tl te kp kh ka ks kd kx ky kc kk kf kl ke (nI L) sg wA wC wN ld nu en rf (rw1 t) (rw1 u) (rw1 im) (rw1 wa) hi sg nu rf (nI L) (nI K) rd n3 sd) H := hP
  refine lv_icmp_eq (tgt := 1190) hx hb dL_law_867 (by decide) (fun _ => ?_) (fun h => absurd rfl h)
  exact ct H locs ⟨t, u, im, wa, L, K, hi, np, nh, na, ns, nd, nx, ny, tp, th, ta, ts, td, tx, ty, kp, kh, ka, ks, kd, kx, ky, ld, rd, sd, nc, nk, nf, nl, ne, tc, tk, tf, tl, te, kc, kk, kf, kl, ke, sg, nu, en, rf, n3, wA, wC, wN, w, ht, R, T, hK, hu, him45, hwa, h01, him, hP⟩ hS
set_option maxHeartbeats 4000000 in
set_option maxRecDepth 100000 in
theorem lc_way (hg : big g) (F : Cx p s m #[Value.ref b] c code 4 wsL_law RL D (tyL cI cJ) A) (hX : va_X b Lx xs s s.heap) (hbl : b < s.heap.size) (hbA : ¬ A b) (hi1 : vp_in (i + 1) Lx) (hi2 : vp_in (i + 2) Lx) (hi3 : vp_in (i + 3) Lx) (hi4 : vp_in (i + 4) Lx) (hl : lv_has ls 4 [(3, .int i), (0, .ref b), (1, .ref (a 0)), (2, .ref (a 28))]) (hI : LI D A cI cJ a H) (hS : va_S A s.heap H locs) (ct : ∀ (H : Heap) (locs : List Loc), LI D A cI cJ a H → va_S A s.heap H locs → W p l e room_1 s m #[Value.ref b] below meth c H locs 37 721 Q (F0 m 1190 ls [])) : W p l e room_1 s m #[Value.ref b] below meth c H locs 37 721 Q (F0 m 872 ls []) := by
  have hx := F.1.1
  have hb := F.1.2.1
  have hts := F.1.2.2.2.2
  obtain ⟨t, u, im, wa, L, K, hi, np, nh, na, ns, nd, nx, ny, tp, th, ta, ts, td, tx, ty, kp, kh, ka, ks, kd, kx, ky, ld, rd, sd, nc, nk, nf, nl, ne, tc, tk, tf, tl, te, kc, kk, kf, kl, ke, sg, nu, en, rf, n3, wA, wC, wN, w, ht, R, T, hK, hu, him45, hwa, h01, him, hP⟩ := hI
  obtain ⟨r9, u9, rf9, o19, o29, o39, o49, o59, o69, o79, o89, o99, o109, o119, o129, h4, h5, hu9⟩ := oWay (g := g) w hg R rf (xs (i + 1).toNatClampNeg) tp th ta ts td tx ty tc tk tf tl te hu
  refine lv_aload_n hx hb dL_law_872 rfl (lv_at hl 2 rfl) ?_
  refine lv_aload_n hx hb dL_law_873 rfl (lv_at hl 1 rfl) ?_
  refine lv_iload_n hx hb dL_law_874 rfl (lv_at hl 0 rfl) ?_
  refine lv_iconst (v := 1) hx hb dL_law_875 (by decide) ?_
  refine lv_iadd hx hb dL_law_876 ?_
  refine va_sld hx hb hX hbl hbA hS hi1 dL_law_877 ?_
  refine cV_i (As := [.int (xs (i + 1).toNatClampNeg)]) (rest := []) F (kX4_way l D cI cJ H.size g (a 0) (a 1) (a 7) (a 13) (a 19) (a 21) (a 24) (a 25) (a 26) (a 27) (a 2) (a 3) (a 4) (a 5) (a 6) (a 8) (a 9) (a 10) (a 11) (a 12) hi (nI K) np nh na ns nd nx ny nc nk nf nl ne tp th ta ts td tx ty tc tk tf tl te rf (xs (i + 1).toNatClampNeg) _ _ _ _ _ _ _ _ _ _ _ _ _ _ h4) (cwV 1 hts gL_law_X4_way rfl rfl rfl eVX4_way ⟨Nat.le_of_ble_eq_true rfl, Nat.le_of_ble_eq_true rfl⟩) [0, 1, 2, 3, 4, 5, 6, 7, 8, 9, 10, 11, 12, 27] hP hS (by decide) rfl rfl 0 rfl rfl rfl hl.1 (Nat.le_of_ble_eq_true rfl) ⟨Nat.le_refl _, Nat.le_refl _⟩ rfl dL_law_878 (fun H locs hP hS => ?_)
  have hP : WD D A (wl cI cJ a hi (nI K) np nh na ns nd nx ny nc nk nf nl ne o19 o29 o39 o49 o59 o69 o79 o89 o99 o109 o119 o129 kp kh ka ks kd kx ky kc kk kf kl ke (nI L) sg wA wC wN ld nu en rf9 (rw1 t) (rw1 u) (rw1 im) (rw1 wa) hi sg nu rf (nI L) (nI K) rd n3 sd) H := hP
  refine lv_aload_n hx hb dL_law_881 rfl (lv_at hl 3 rfl) ?_
  refine lv_aload_n hx hb dL_law_882 rfl (lv_at hl 1 rfl) ?_
  refine lv_iload_n hx hb dL_law_883 rfl (lv_at hl 0 rfl) ?_
  refine lv_iconst (v := 1) hx hb dL_law_884 (by decide) ?_
  refine lv_iadd hx hb dL_law_885 ?_
  refine va_sld hx hb hX hbl hbA hS hi1 dL_law_886 ?_
  refine cV_i (As := [.int (xs (i + 1).toNatClampNeg)]) (rest := [.int r9]) F (kX5_way l D cI cJ H.size g (a 28) (a 29) (a 30) (a 31) (a 32) (a 33) (a 34) (a 35) (a 36) hi (nI L) (nI K) rd sd (rw1 t) (rw1 u) rf (xs (i + 1).toNatClampNeg) _ _ _ h5) (cwV 1 hts gL_law_X5_way rfl rfl rfl eVX5_way ⟨Nat.le_of_ble_eq_true rfl, Nat.le_of_ble_eq_true rfl⟩) [28, 29, 30, 35] hP hS (by decide) rfl rfl 0 rfl rfl rfl hl.1 (Nat.le_of_ble_eq_true rfl) ⟨Nat.le_refl _, Nat.le_refl _⟩ rfl dL_law_887 (fun H locs hP hS => ?_)
  have hP : WD D A (wl cI cJ a hi (nI K) np nh na ns nd nx ny nc nk nf nl ne o19 o29 o39 o49 o59 o69 o79 o89 o99 o109 o119 o129 kp kh ka ks kd kx ky kc kk kf kl ke (nI L) sg wA wC wN ld nu en rf9 (rw1 t) (rw1 u9) (rw1 im) (rw1 wa) hi sg nu rf9 (nI L) (nI K) rd n3 sd) H := hP
  refine lv_icmp_eq (tgt := 1190) hx hb dL_law_890 (by decide) (fun _ => ?_) (fun h => absurd rfl h)
  exact ct H locs ⟨t, u9, im, wa, L, K, hi, np, nh, na, ns, nd, nx, ny, o19, o29, o39, o49, o59, o69, o79, kp, kh, ka, ks, kd, kx, ky, ld, rd, sd, nc, nk, nf, nl, ne, o89, o99, o109, o119, o129, kc, kk, kf, kl, ke, sg, nu, en, rf9, n3, wA, wC, wN, w, ht, R, T, hK, hu9, him45, hwa, h01, him, hP⟩ hS
set_option maxHeartbeats 4000000 in
set_option maxRecDepth 100000 in
theorem lc_two (hg : big g) (F : Cx p s m #[Value.ref b] c code 4 wsL_law RL D (tyL cI cJ) A) (hX : va_X b Lx xs s s.heap) (hbl : b < s.heap.size) (hbA : ¬ A b) (hi1 : vp_in (i + 1) Lx) (hi2 : vp_in (i + 2) Lx) (hi3 : vp_in (i + 3) Lx) (hi4 : vp_in (i + 4) Lx) (hl : lv_has ls 4 [(3, .int i), (0, .ref b), (1, .ref (a 0)), (2, .ref (a 28))]) (hI : LI D A cI cJ a H) (hS : va_S A s.heap H locs) (ct : ∀ (H : Heap) (locs : List Loc), LI D A cI cJ a H → va_S A s.heap H locs → W p l e room_1 s m #[Value.ref b] below meth c H locs 37 721 Q (F0 m 1190 ls [])) : W p l e room_1 s m #[Value.ref b] below meth c H locs 37 721 Q (F0 m 895 ls []) := by
  have hx := F.1.1
  have hb := F.1.2.1
  have hts := F.1.2.2.2.2
  obtain ⟨t, u, im, wa, L, K, hi, np, nh, na, ns, nd, nx, ny, tp, th, ta, ts, td, tx, ty, kp, kh, ka, ks, kd, kx, ky, ld, rd, sd, nc, nk, nf, nl, ne, tc, tk, tf, tl, te, kc, kk, kf, kl, ke, sg, nu, en, rf, n3, wA, wC, wN, w, ht, R, T, hK, hu, him45, hwa, h01, him, hP⟩ := hI
  obtain ⟨r9, u9, rf9, o19, o29, o39, o49, o59, o69, o79, o89, o99, o109, o119, o129, e9, h4, h5, hu9⟩ := oTwo (g := g) w hg R rf (xs (i + 1).toNatClampNeg) (xs (i + 2).toNatClampNeg) (xs (i + 3).toNatClampNeg) tp th ta ts td tx ty tc tk tf tl te en hu
  refine lv_aload_n hx hb dL_law_895 rfl (lv_at hl 2 rfl) ?_
  refine lv_aload_n hx hb dL_law_896 rfl (lv_at hl 1 rfl) ?_
  refine lv_iload_n hx hb dL_law_897 rfl (lv_at hl 0 rfl) ?_
  refine lv_iconst (v := 1) hx hb dL_law_898 (by decide) ?_
  refine lv_iadd hx hb dL_law_899 ?_
  refine va_sld hx hb hX hbl hbA hS hi1 dL_law_900 ?_
  refine lv_aload_n hx hb dL_law_901 rfl (lv_at hl 1 rfl) ?_
  refine lv_iload_n hx hb dL_law_902 rfl (lv_at hl 0 rfl) ?_
  refine lv_iconst (v := 2) hx hb dL_law_903 (by decide) ?_
  refine lv_iadd hx hb dL_law_904 ?_
  refine va_sld hx hb hX hbl hbA hS hi2 dL_law_905 ?_
  refine lv_aload_n hx hb dL_law_906 rfl (lv_at hl 1 rfl) ?_
  refine lv_iload_n hx hb dL_law_907 rfl (lv_at hl 0 rfl) ?_
  refine lv_iconst (v := 3) hx hb dL_law_908 (by decide) ?_
  refine lv_iadd hx hb dL_law_909 ?_
  refine va_sld hx hb hX hbl hbA hS hi3 dL_law_910 ?_
  refine cV_i (As := [.int (xs (i + 1).toNatClampNeg), .int (xs (i + 2).toNatClampNeg), .int (xs (i + 3).toNatClampNeg)]) (rest := []) F (kX4_two l D cI cJ H.size g (a 0) (a 1) (a 7) (a 13) (a 19) (a 21) (a 24) (a 25) (a 26) (a 27) (a 2) (a 3) (a 4) (a 5) (a 6) (a 8) (a 9) (a 10) (a 11) (a 12) hi (nI K) np nh na ns nd nx ny nc nk nf nl ne tp th ta ts td tx ty tc tk tf tl te en rf (xs (i + 1).toNatClampNeg) (xs (i + 2).toNatClampNeg) (xs (i + 3).toNatClampNeg) _ _ _ _ _ _ _ _ _ _ _ _ _ _ _ h4) (cwV 3 hts gL_law_X4_two rfl rfl rfl eVX4_two ⟨Nat.le_of_ble_eq_true rfl, Nat.le_of_ble_eq_true rfl⟩) [0, 1, 2, 3, 4, 5, 6, 7, 8, 9, 10, 11, 12, 26, 27] hP hS (by decide) rfl rfl 0 rfl rfl rfl hl.1 (Nat.le_of_ble_eq_true rfl) ⟨Nat.le_refl _, Nat.le_refl _⟩ rfl dL_law_911 (fun H locs hP hS => ?_)
  have hP : WD D A (wl cI cJ a hi (nI K) np nh na ns nd nx ny nc nk nf nl ne o19 o29 o39 o49 o59 o69 o79 o89 o99 o109 o119 o129 kp kh ka ks kd kx ky kc kk kf kl ke (nI L) sg wA wC wN ld nu e9 rf9 (rw1 t) (rw1 u) (rw1 im) (rw1 wa) hi sg nu rf (nI L) (nI K) rd n3 sd) H := hP
  refine lv_aload_n hx hb dL_law_914 rfl (lv_at hl 3 rfl) ?_
  refine lv_aload_n hx hb dL_law_915 rfl (lv_at hl 1 rfl) ?_
  refine lv_iload_n hx hb dL_law_916 rfl (lv_at hl 0 rfl) ?_
  refine lv_iconst (v := 1) hx hb dL_law_917 (by decide) ?_
  refine lv_iadd hx hb dL_law_918 ?_
  refine va_sld hx hb hX hbl hbA hS hi1 dL_law_919 ?_
  refine lv_aload_n hx hb dL_law_920 rfl (lv_at hl 1 rfl) ?_
  refine lv_iload_n hx hb dL_law_921 rfl (lv_at hl 0 rfl) ?_
  refine lv_iconst (v := 2) hx hb dL_law_922 (by decide) ?_
  refine lv_iadd hx hb dL_law_923 ?_
  refine va_sld hx hb hX hbl hbA hS hi2 dL_law_924 ?_
  refine lv_aload_n hx hb dL_law_925 rfl (lv_at hl 1 rfl) ?_
  refine lv_iload_n hx hb dL_law_926 rfl (lv_at hl 0 rfl) ?_
  refine lv_iconst (v := 3) hx hb dL_law_927 (by decide) ?_
  refine lv_iadd hx hb dL_law_928 ?_
  refine va_sld hx hb hX hbl hbA hS hi3 dL_law_929 ?_
  refine cV_i (As := [.int (xs (i + 1).toNatClampNeg), .int (xs (i + 2).toNatClampNeg), .int (xs (i + 3).toNatClampNeg)]) (rest := [.int r9]) F (kX5_two l D cI cJ H.size g (a 28) (a 29) (a 30) (a 31) (a 32) (a 33) (a 34) (a 35) (a 36) hi (nI L) (nI K) rd sd (rw1 t) (rw1 u) rf (xs (i + 1).toNatClampNeg) (xs (i + 2).toNatClampNeg) (xs (i + 3).toNatClampNeg) _ _ _ h5) (cwV 3 hts gL_law_X5_two rfl rfl rfl eVX5_two ⟨Nat.le_of_ble_eq_true rfl, Nat.le_of_ble_eq_true rfl⟩) [28, 29, 30, 35] hP hS (by decide) rfl rfl 0 rfl rfl rfl hl.1 (Nat.le_of_ble_eq_true rfl) ⟨Nat.le_refl _, Nat.le_refl _⟩ rfl dL_law_930 (fun H locs hP hS => ?_)
  have hP : WD D A (wl cI cJ a hi (nI K) np nh na ns nd nx ny nc nk nf nl ne o19 o29 o39 o49 o59 o69 o79 o89 o99 o109 o119 o129 kp kh ka ks kd kx ky kc kk kf kl ke (nI L) sg wA wC wN ld nu e9 rf9 (rw1 t) (rw1 u9) (rw1 im) (rw1 wa) hi sg nu rf9 (nI L) (nI K) rd n3 sd) H := hP
  refine lv_icmp_eq (tgt := 1190) hx hb dL_law_933 (by decide) (fun _ => ?_) (fun h => absurd rfl h)
  exact ct H locs ⟨t, u9, im, wa, L, K, hi, np, nh, na, ns, nd, nx, ny, o19, o29, o39, o49, o59, o69, o79, kp, kh, ka, ks, kd, kx, ky, ld, rd, sd, nc, nk, nf, nl, ne, o89, o99, o109, o119, o129, kc, kk, kf, kl, ke, sg, nu, e9, rf9, n3, wA, wC, wN, w, ht, R, T, hK, hu9, him45, hwa, h01, him, hP⟩ hS
end PLW
