/-! ===== the law: its calls (1); laid by mklaw.py ===== -/
section PLW
variable {p : Program} {l : Launch} {e : Env} {s : State} {m : MethodId} {below : List Frame} {meth : Method} {c : Code} {H : Heap} {locs : List Loc} {Q : State → Prop} {ls : Array Slot} {D : va_G} {A : Nat → Prop} {cI cJ : ClassId} {b Lx : Nat} {xs : Nat → Int32} {a : Nat → Nat} {i : Int32} {g : Nat}
set_option maxHeartbeats 4000000 in
set_option maxRecDepth 100000 in
theorem lc_letter (hg : big g) (F : Cx p s m #[Value.ref b] c code 4 wsL_law RL D (tyL cI cJ) A) (hX : va_X b Lx xs s s.heap) (hbl : b < s.heap.size) (hbA : ¬ A b) (hi1 : vp_in (i + 1) Lx) (hi2 : vp_in (i + 2) Lx) (hi3 : vp_in (i + 3) Lx) (hi4 : vp_in (i + 4) Lx) (hl : lv_has ls 4 [(3, .int i), (0, .ref b), (1, .ref (a 0)), (2, .ref (a 28))]) (hI : LI D A cI cJ a H) (hS : va_S A s.heap H locs) (ct : ∀ (H : Heap) (locs : List Loc), LI D A cI cJ a H → va_S A s.heap H locs → W p l e room_1 s m #[Value.ref b] below meth c H locs 37 721 Q (F0 m 1190 ls [])) : W p l e room_1 s m #[Value.ref b] below meth c H locs 37 721 Q (F0 m 208 ls []) := by
  have hx := F.1.1
  have hb := F.1.2.1
  have hts := F.1.2.2.2.2
  obtain ⟨t, u, im, wa, L, K, hi, np, nh, na, ns, nd, nx, ny, tp, th, ta, ts, td, tx, ty, kp, kh, ka, ks, kd, kx, ky, ld, rd, sd, nc, nk, nf, nl, ne, tc, tk, tf, tl, te, kc, kk, kf, kl, ke, sg, nu, en, rf, n3, wA, wC, wN, w, ht, R, T, hK, hu, him45, hwa, h01, him, hP⟩ := hI
  obtain ⟨r9, L9, sg9, rf9, h4, h5, T9⟩ := oLetter (g := g) T (xs (i + 1).toNatClampNeg)
  refine lv_aload_n hx hb dL_law_208 rfl (lv_at hl 2 rfl) ?_
  refine lv_aload_n hx hb dL_law_209 rfl (lv_at hl 1 rfl) ?_
  refine lv_iload_n hx hb dL_law_210 rfl (lv_at hl 0 rfl) ?_
  refine lv_iconst (v := 1) hx hb dL_law_211 (by decide) ?_
  refine lv_iadd hx hb dL_law_212 ?_
  refine va_sld hx hb hX hbl hbA hS hi1 dL_law_213 ?_
  refine cV_i (As := [.int (xs (i + 1).toNatClampNeg)]) (rest := []) F (kX4_letter l D cI cJ H.size g (a 0) (a 1) (a 7) (a 13) (a 19) (a 21) (a 24) (a 25) (a 26) (a 27) (a 20) hi (nI K) (nI L) sg rf (xs (i + 1).toNatClampNeg) _ _ _ _ h4) (cwV 1 hts gL_law_X4_letter rfl rfl rfl eVX4_letter ⟨Nat.le_of_ble_eq_true rfl, Nat.le_of_ble_eq_true rfl⟩) [0, 19, 20, 27] hP hS (by decide) rfl rfl 0 rfl rfl rfl hl.1 (Nat.le_of_ble_eq_true rfl) ⟨Nat.le_refl _, Nat.le_refl _⟩ rfl dL_law_214 (fun H locs hP hS => ?_)
  have hP : WD D A (wl cI cJ a hi (nI K) np nh na ns nd nx ny nc nk nf nl ne tp th ta ts td tx ty tc tk tf tl te kp kh ka ks kd kx ky kc kk kf kl ke (nI L9) sg9 wA wC wN ld nu en rf9 (rw1 t) (rw1 u) (rw1 im) (rw1 wa) hi sg nu rf (nI L) (nI K) rd n3 sd) H := hP
  refine lv_aload_n hx hb dL_law_217 rfl (lv_at hl 3 rfl) ?_
  refine lv_aload_n hx hb dL_law_218 rfl (lv_at hl 1 rfl) ?_
  refine lv_iload_n hx hb dL_law_219 rfl (lv_at hl 0 rfl) ?_
  refine lv_iconst (v := 1) hx hb dL_law_220 (by decide) ?_
  refine lv_iadd hx hb dL_law_221 ?_
  refine va_sld hx hb hX hbl hbA hS hi1 dL_law_222 ?_
  refine cV_i (As := [.int (xs (i + 1).toNatClampNeg)]) (rest := [.int r9]) F (kX5_letter l D cI cJ H.size g (a 28) (a 29) (a 30) (a 31) (a 32) (a 33) (a 34) (a 35) (a 36) hi (nI L) (nI K) rd sd sg rf (xs (i + 1).toNatClampNeg) _ _ _ _ h5) (cwV 1 hts gL_law_X5_letter rfl rfl rfl eVX5_letter ⟨Nat.le_of_ble_eq_true rfl, Nat.le_of_ble_eq_true rfl⟩) [28, 33, 35] hP hS (by decide) rfl rfl 0 rfl rfl rfl hl.1 (Nat.le_of_ble_eq_true rfl) ⟨Nat.le_refl _, Nat.le_refl _⟩ rfl dL_law_223 (fun H locs hP hS => ?_)
  have hP : WD D A (wl cI cJ a hi (nI K) np nh na ns nd nx ny nc nk nf nl ne tp th ta ts td tx ty tc tk tf tl te kp kh ka ks kd kx ky kc kk kf kl ke (nI L9) sg9 wA wC wN ld nu en rf9 (rw1 t) (rw1 u) (rw1 im) (rw1 wa) hi sg9 nu rf9 (nI L9) (nI K) rd n3 sd) H := hP
  refine lv_icmp_eq (tgt := 1190) hx hb dL_law_226 (by decide) (fun _ => ?_) (fun h => absurd rfl h)
  exact ct H locs ⟨t, u, im, wa, L9, K, hi, np, nh, na, ns, nd, nx, ny, tp, th, ta, ts, td, tx, ty, kp, kh, ka, ks, kd, kx, ky, ld, rd, sd, nc, nk, nf, nl, ne, tc, tk, tf, tl, te, kc, kk, kf, kl, ke, sg9, nu, en, rf9, n3, wA, wC, wN, w, ht, R, T9, hK, hu, him45, hwa, h01, him, hP⟩ hS
set_option maxHeartbeats 4000000 in
set_option maxRecDepth 100000 in
theorem lc_sea (hg : big g) (F : Cx p s m #[Value.ref b] c code 4 wsL_law RL D (tyL cI cJ) A) (hX : va_X b Lx xs s s.heap) (hbl : b < s.heap.size) (hbA : ¬ A b) (hi1 : vp_in (i + 1) Lx) (hi2 : vp_in (i + 2) Lx) (hi3 : vp_in (i + 3) Lx) (hi4 : vp_in (i + 4) Lx) (hl : lv_has ls 4 [(3, .int i), (0, .ref b), (1, .ref (a 0)), (2, .ref (a 28))]) (hI : LI D A cI cJ a H) (hS : va_S A s.heap H locs) (ct : ∀ (H : Heap) (locs : List Loc), LI D A cI cJ a H → va_S A s.heap H locs → W p l e room_1 s m #[Value.ref b] below meth c H locs 37 721 Q (F0 m 1190 ls [])) : W p l e room_1 s m #[Value.ref b] below meth c H locs 37 721 Q (F0 m 231 ls []) := by
  have hx := F.1.1
  have hb := F.1.2.1
  have hts := F.1.2.2.2.2
  obtain ⟨t, u, im, wa, L, K, hi, np, nh, na, ns, nd, nx, ny, tp, th, ta, ts, td, tx, ty, kp, kh, ka, ks, kd, kx, ky, ld, rd, sd, nc, nk, nf, nl, ne, tc, tk, tf, tl, te, kc, kk, kf, kl, ke, sg, nu, en, rf, n3, wA, wC, wN, w, ht, R, T, hK, hu, him45, hwa, h01, him, hP⟩ := hI
  obtain ⟨r9, t9, u9, rd9, n39, m19, m29, m39, m49, m59, m69, m79, m89, m99, m109, o19, o29, o39, o49, o59, o69, o79, o89, o99, o109, o119, o129, h4, h5, w9, ht9, R9, hwa9, T9⟩ := oSea (g := g) w hg ht R T n3 tp th ta ts td tx ty tc tk tf tl te hwa
  refine lv_aload_n hx hb dL_law_231 rfl (lv_at hl 2 rfl) ?_
  refine cV_i (As := []) (rest := []) F (kX4_sea l D cI cJ H.size g (a 0) (a 1) (a 7) (a 13) (a 19) (a 21) (a 24) (a 25) (a 26) (a 27) (a 2) (a 3) (a 4) (a 5) (a 6) (a 8) (a 9) (a 10) (a 11) (a 12) (a 20) hi (nI K) np nh na ns nd nx ny nc nk nf nl ne tp th ta ts td tx ty tc tk tf tl te (nI L) sg  _ _ _ _ _ _ _ _ _ _ _ _ _ _ _ _ _ _ _ _ _ _ _ _ h4) (cwV 0 hts gL_law_X4_sea rfl rfl rfl eVX4_sea ⟨Nat.le_of_ble_eq_true rfl, Nat.le_of_ble_eq_true rfl⟩) [0, 1, 2, 3, 4, 5, 6, 7, 8, 9, 10, 11, 12, 19, 20] hP hS (by decide) rfl rfl 0 rfl rfl rfl hl.1 (Nat.le_of_ble_eq_true rfl) ⟨Nat.le_refl _, Nat.le_refl _⟩ rfl dL_law_232 (fun H locs hP hS => ?_)
  have hP : WD D A (wl cI cJ a hi (nI K) m19 m29 m39 m49 m59 nx ny m69 m79 m89 m99 m109 o19 o29 o39 o49 o59 o69 o79 o89 o99 o109 o119 o129 kp kh ka ks kd kx ky kc kk kf kl ke (nI 0) sg wA wC wN ld nu en rf (rw1 t) (rw1 u) (rw1 im) (rw1 wa) hi sg nu rf (nI L) (nI K) rd n3 sd) H := hP
  refine lv_aload_n hx hb dL_law_235 rfl (lv_at hl 3 rfl) ?_
  refine cV_i (As := []) (rest := [.int r9]) F (kX5_sea l D cI cJ H.size g (a 28) (a 29) (a 30) (a 31) (a 32) (a 33) (a 34) (a 35) (a 36) hi (nI L) (nI K) rd sd (rw1 t) (rw1 wa) sg n3  _ _ _ _ _ _ h5) (cwV 0 hts gL_law_X5_sea rfl rfl rfl eVX5_sea ⟨Nat.le_of_ble_eq_true rfl, Nat.le_of_ble_eq_true rfl⟩) [28, 29, 32, 33, 36] hP hS (by decide) rfl rfl 0 rfl rfl rfl hl.1 (Nat.le_of_ble_eq_true rfl) ⟨Nat.le_refl _, Nat.le_refl _⟩ rfl dL_law_236 (fun H locs hP hS => ?_)
  have hP : WD D A (wl cI cJ a hi (nI K) m19 m29 m39 m49 m59 nx ny m69 m79 m89 m99 m109 o19 o29 o39 o49 o59 o69 o79 o89 o99 o109 o119 o129 kp kh ka ks kd kx ky kc kk kf kl ke (nI 0) sg wA wC wN ld nu en rf (rw1 t9) (rw1 u) (rw1 im) (rw1 u9) hi sg nu rf (nI 0) (nI K) rd9 n39 sd) H := hP
  refine lv_icmp_eq (tgt := 1190) hx hb dL_law_239 (by decide) (fun _ => ?_) (fun h => absurd rfl h)
  exact ct H locs ⟨t9, u, im, u9, 0, K, hi, m19, m29, m39, m49, m59, nx, ny, o19, o29, o39, o49, o59, o69, o79, kp, kh, ka, ks, kd, kx, ky, ld, rd9, sd, m69, m79, m89, m99, m109, o89, o99, o109, o119, o129, kc, kk, kf, kl, ke, sg, nu, en, rf, n39, wA, wC, wN, w9, ht9, R9, T9, hK, hu, him45, hwa9, h01, him, hP⟩ hS
set_option maxHeartbeats 4000000 in
set_option maxRecDepth 100000 in
theorem lc_hand (hg : big g) (F : Cx p s m #[Value.ref b] c code 4 wsL_law RL D (tyL cI cJ) A) (hX : va_X b Lx xs s s.heap) (hbl : b < s.heap.size) (hbA : ¬ A b) (hi1 : vp_in (i + 1) Lx) (hi2 : vp_in (i + 2) Lx) (hi3 : vp_in (i + 3) Lx) (hi4 : vp_in (i + 4) Lx) (hl : lv_has ls 4 [(3, .int i), (0, .ref b), (1, .ref (a 0)), (2, .ref (a 28))]) (hI : LI D A cI cJ a H) (hS : va_S A s.heap H locs) (ct : ∀ (H : Heap) (locs : List Loc), LI D A cI cJ a H → va_S A s.heap H locs → W p l e room_1 s m #[Value.ref b] below meth c H locs 37 721 Q (F0 m 1190 ls [])) : W p l e room_1 s m #[Value.ref b] below meth c H locs 37 721 Q (F0 m 244 ls []) := by
  have hx := F.1.1
  have hb := F.1.2.1
  have hts := F.1.2.2.2.2
  obtain ⟨t, u, im, wa, L, K, hi, np, nh, na, ns, nd, nx, ny, tp, th, ta, ts, td, tx, ty, kp, kh, ka, ks, kd, kx, ky, ld, rd, sd, nc, nk, nf, nl, ne, tc, tk, tf, tl, te, kc, kk, kf, kl, ke, sg, nu, en, rf, n3, wA, wC, wN, w, ht, R, T, hK, hu, him45, hwa, h01, him, hP⟩ := hI
  obtain ⟨r9, rf9, h4, h5⟩ := oHand (g := g) w R rf (xs (i + 1).toNatClampNeg) (xs (i + 2).toNatClampNeg)
  refine lv_aload_n hx hb dL_law_244 rfl (lv_at hl 2 rfl) ?_
  refine lv_aload_n hx hb dL_law_245 rfl (lv_at hl 1 rfl) ?_
  refine lv_iload_n hx hb dL_law_246 rfl (lv_at hl 0 rfl) ?_
  refine lv_iconst (v := 1) hx hb dL_law_247 (by decide) ?_
  refine lv_iadd hx hb dL_law_248 ?_
  refine va_sld hx hb hX hbl hbA hS hi1 dL_law_249 ?_
  refine lv_aload_n hx hb dL_law_250 rfl (lv_at hl 1 rfl) ?_
  refine lv_iload_n hx hb dL_law_251 rfl (lv_at hl 0 rfl) ?_
  refine lv_iconst (v := 2) hx hb dL_law_252 (by decide) ?_
  refine lv_iadd hx hb dL_law_253 ?_
  refine va_sld hx hb hX hbl hbA hS hi2 dL_law_254 ?_
  refine cV_i (As := [.int (xs (i + 1).toNatClampNeg), .int (xs (i + 2).toNatClampNeg)]) (rest := []) F (kX4_hand l D cI cJ H.size g (a 0) (a 1) (a 7) (a 13) (a 19) (a 21) (a 24) (a 25) (a 26) (a 27) (a 2) (a 3) (a 4) (a 5) (a 6) hi (nI K) np nh na ns nd nx ny nk nf nl ne rf (xs (i + 1).toNatClampNeg) (xs (i + 2).toNatClampNeg) _ _ h4) (cwV 2 hts gL_law_X4_hand rfl rfl rfl eVX4_hand ⟨Nat.le_of_ble_eq_true rfl, Nat.le_of_ble_eq_true rfl⟩) [0, 1, 3, 4, 5, 6, 27] hP hS (by decide) rfl rfl 0 rfl rfl rfl hl.1 (Nat.le_of_ble_eq_true rfl) ⟨Nat.le_refl _, Nat.le_refl _⟩ rfl dL_law_255 (fun H locs hP hS => ?_)
  have hP : WD D A (wl cI cJ a hi (nI K) np nh na ns nd nx ny nc nk nf nl ne tp th ta ts td tx ty tc tk tf tl te kp kh ka ks kd kx ky kc kk kf kl ke (nI L) sg wA wC wN ld nu en rf9 (rw1 t) (rw1 u) (rw1 im) (rw1 wa) hi sg nu rf (nI L) (nI K) rd n3 sd) H := hP
  refine lv_aload_n hx hb dL_law_258 rfl (lv_at hl 3 rfl) ?_
  refine lv_aload_n hx hb dL_law_259 rfl (lv_at hl 1 rfl) ?_
  refine lv_iload_n hx hb dL_law_260 rfl (lv_at hl 0 rfl) ?_
  refine lv_iconst (v := 1) hx hb dL_law_261 (by decide) ?_
  refine lv_iadd hx hb dL_law_262 ?_
  refine va_sld hx hb hX hbl hbA hS hi1 dL_law_263 ?_
  refine lv_aload_n hx hb dL_law_264 rfl (lv_at hl 1 rfl) ?_
  refine lv_iload_n hx hb dL_law_265 rfl (lv_at hl 0 rfl) ?_
  refine lv_iconst (v := 2) hx hb dL_law_266 (by decide) ?_
  refine lv_iadd hx hb dL_law_267 ?_
  refine va_sld hx hb hX hbl hbA hS hi2 dL_law_268 ?_
  refine cV_i (As := [.int (xs (i + 1).toNatClampNeg), .int (xs (i + 2).toNatClampNeg)]) (rest := [.int r9]) F (kX5_hand l D cI cJ H.size g (a 28) (a 29) (a 30) (a 31) (a 32) (a 33) (a 34) (a 35) (a 36) hi (nI L) (nI K) rd sd (rw1 t) rf (xs (i + 1).toNatClampNeg) (xs (i + 2).toNatClampNeg) _ _ h5) (cwV 2 hts gL_law_X5_hand rfl rfl rfl eVX5_hand ⟨Nat.le_of_ble_eq_true rfl, Nat.le_of_ble_eq_true rfl⟩) [28, 29, 35] hP hS (by decide) rfl rfl 0 rfl rfl rfl hl.1 (Nat.le_of_ble_eq_true rfl) ⟨Nat.le_refl _, Nat.le_refl _⟩ rfl dL_law_269 (fun H locs hP hS => ?_)
  have hP : WD D A (wl cI cJ a hi (nI K) np nh na ns nd nx ny nc nk nf nl ne tp th ta ts td tx ty tc tk tf tl te kp kh ka ks kd kx ky kc kk kf kl ke (nI L) sg wA wC wN ld nu en rf9 (rw1 t) (rw1 u) (rw1 im) (rw1 wa) hi sg nu rf9 (nI L) (nI K) rd n3 sd) H := hP
  refine lv_icmp_eq (tgt := 1190) hx hb dL_law_272 (by decide) (fun _ => ?_) (fun h => absurd rfl h)
  exact ct H locs ⟨t, u, im, wa, L, K, hi, np, nh, na, ns, nd, nx, ny, tp, th, ta, ts, td, tx, ty, kp, kh, ka, ks, kd, kx, ky, ld, rd, sd, nc, nk, nf, nl, ne, tc, tk, tf, tl, te, kc, kk, kf, kl, ke, sg, nu, en, rf9, n3, wA, wC, wN, w, ht, R, T, hK, hu, him45, hwa, h01, him, hP⟩ hS
set_option maxHeartbeats 4000000 in
set_option maxRecDepth 100000 in
theorem lc_place (hg : big g) (F : Cx p s m #[Value.ref b] c code 4 wsL_law RL D (tyL cI cJ) A) (hX : va_X b Lx xs s s.heap) (hbl : b < s.heap.size) (hbA : ¬ A b) (hi1 : vp_in (i + 1) Lx) (hi2 : vp_in (i + 2) Lx) (hi3 : vp_in (i + 3) Lx) (hi4 : vp_in (i + 4) Lx) (hl : lv_has ls 4 [(3, .int i), (0, .ref b), (1, .ref (a 0)), (2, .ref (a 28))]) (hI : LI D A cI cJ a H) (hS : va_S A s.heap H locs) (ct : ∀ (H : Heap) (locs : List Loc), LI D A cI cJ a H → va_S A s.heap H locs → W p l e room_1 s m #[Value.ref b] below meth c H locs 37 721 Q (F0 m 1190 ls [])) : W p l e room_1 s m #[Value.ref b] below meth c H locs 37 721 Q (F0 m 277 ls []) := by
  have hx := F.1.1
  have hb := F.1.2.1
  have hts := F.1.2.2.2.2
  obtain ⟨t, u, im, wa, L, K, hi, np, nh, na, ns, nd, nx, ny, tp, th, ta, ts, td, tx, ty, kp, kh, ka, ks, kd, kx, ky, ld, rd, sd, nc, nk, nf, nl, ne, tc, tk, tf, tl, te, kc, kk, kf, kl, ke, sg, nu, en, rf, n3, wA, wC, wN, w, ht, R, T, hK, hu, him45, hwa, h01, him, hP⟩ := hI
  obtain ⟨r9, rf9, h4, h5⟩ := oPlace (g := g) w R rf (xs (i + 1).toNatClampNeg)
  refine lv_aload_n hx hb dL_law_277 rfl (lv_at hl 2 rfl) ?_
  refine lv_aload_n hx hb dL_law_278 rfl (lv_at hl 1 rfl) ?_
  refine lv_iload_n hx hb dL_law_279 rfl (lv_at hl 0 rfl) ?_
  refine lv_iconst (v := 1) hx hb dL_law_280 (by decide) ?_
  refine lv_iadd hx hb dL_law_281 ?_
  refine va_sld hx hb hX hbl hbA hS hi1 dL_law_282 ?_
  refine cV_i (As := [.int (xs (i + 1).toNatClampNeg)]) (rest := []) F (kX4_place l D cI cJ H.size g (a 0) (a 1) (a 7) (a 13) (a 19) (a 21) (a 24) (a 25) (a 26) (a 27) (a 2) (a 3) (a 4) (a 5) (a 6) hi (nI K) np nh na ns nd nx ny nc rf (xs (i + 1).toNatClampNeg) _ _ h4) (cwV 1 hts gL_law_X4_place rfl rfl rfl eVX4_place ⟨Nat.le_of_ble_eq_true rfl, Nat.le_of_ble_eq_true rfl⟩) [0, 1, 2, 27] hP hS (by decide) rfl rfl 0 rfl rfl rfl hl.1 (Nat.le_of_ble_eq_true rfl) ⟨Nat.le_refl _, Nat.le_refl _⟩ rfl dL_law_283 (fun H locs hP hS => ?_)
  have hP : WD D A (wl cI cJ a hi (nI K) np nh na ns nd nx ny nc nk nf nl ne tp th ta ts td tx ty tc tk tf tl te kp kh ka ks kd kx ky kc kk kf kl ke (nI L) sg wA wC wN ld nu en rf9 (rw1 t) (rw1 u) (rw1 im) (rw1 wa) hi sg nu rf (nI L) (nI K) rd n3 sd) H := hP
  refine lv_aload_n hx hb dL_law_286 rfl (lv_at hl 3 rfl) ?_
  refine lv_aload_n hx hb dL_law_287 rfl (lv_at hl 1 rfl) ?_
  refine lv_iload_n hx hb dL_law_288 rfl (lv_at hl 0 rfl) ?_
  refine lv_iconst (v := 1) hx hb dL_law_289 (by decide) ?_
  refine lv_iadd hx hb dL_law_290 ?_
  refine va_sld hx hb hX hbl hbA hS hi1 dL_law_291 ?_
  refine cV_i (As := [.int (xs (i + 1).toNatClampNeg)]) (rest := [.int r9]) F (kX5_place l D cI cJ H.size g (a 28) (a 29) (a 30) (a 31) (a 32) (a 33) (a 34) (a 35) (a 36) hi (nI L) (nI K) rd sd (rw1 t) rf (xs (i + 1).toNatClampNeg) _ _ h5) (cwV 1 hts gL_law_X5_place rfl rfl rfl eVX5_place ⟨Nat.le_of_ble_eq_true rfl, Nat.le_of_ble_eq_true rfl⟩) [28, 29, 35] hP hS (by decide) rfl rfl 0 rfl rfl rfl hl.1 (Nat.le_of_ble_eq_true rfl) ⟨Nat.le_refl _, Nat.le_refl _⟩ rfl dL_law_292 (fun H locs hP hS => ?_)
  have hP : WD D A (wl cI cJ a hi (nI K) np nh na ns nd nx ny nc nk nf nl ne tp th ta ts td tx ty tc tk tf tl te kp kh ka ks kd kx ky kc kk kf kl ke (nI L) sg wA wC wN ld nu en rf9 (rw1 t) (rw1 u) (rw1 im) (rw1 wa) hi sg nu rf9 (nI L) (nI K) rd n3 sd) H := hP
  refine lv_icmp_eq (tgt := 1190) hx hb dL_law_295 (by decide) (fun _ => ?_) (fun h => absurd rfl h)
  exact ct H locs ⟨t, u, im, wa, L, K, hi, np, nh, na, ns, nd, nx, ny, tp, th, ta, ts, td, tx, ty, kp, kh, ka, ks, kd, kx, ky, ld, rd, sd, nc, nk, nf, nl, ne, tc, tk, tf, tl, te, kc, kk, kf, kl, ke, sg, nu, en, rf9, n3, wA, wC, wN, w, ht, R, T, hK, hu, him45, hwa, h01, him, hP⟩ hS
set_option maxHeartbeats 4000000 in
set_option maxRecDepth 100000 in
theorem lc_leans (hg : big g) (F : Cx p s m #[Value.ref b] c code 4 wsL_law RL D (tyL cI cJ) A) (hX : va_X b Lx xs s s.heap) (hbl : b < s.heap.size) (hbA : ¬ A b) (hi1 : vp_in (i + 1) Lx) (hi2 : vp_in (i + 2) Lx) (hi3 : vp_in (i + 3) Lx) (hi4 : vp_in (i + 4) Lx) (hl : lv_has ls 4 [(3, .int i), (0, .ref b), (1, .ref (a 0)), (2, .ref (a 28))]) (hI : LI D A cI cJ a H) (hS : va_S A s.heap H locs) (ct : ∀ (H : Heap) (locs : List Loc), LI D A cI cJ a H → va_S A s.heap H locs → W p l e room_1 s m #[Value.ref b] below meth c H locs 37 721 Q (F0 m 1190 ls [])) : W p l e room_1 s m #[Value.ref b] below meth c H locs 37 721 Q (F0 m 300 ls []) := by
  have hx := F.1.1
  have hb := F.1.2.1
  have hts := F.1.2.2.2.2
  obtain ⟨t, u, im, wa, L, K, hi, np, nh, na, ns, nd, nx, ny, tp, th, ta, ts, td, tx, ty, kp, kh, ka, ks, kd, kx, ky, ld, rd, sd, nc, nk, nf, nl, ne, tc, tk, tf, tl, te, kc, kk, kf, kl, ke, sg, nu, en, rf, n3, wA, wC, wN, w, ht, R, T, hK, hu, him45, hwa, h01, him, hP⟩ := hI
  obtain ⟨r9, rf9, h4, h5⟩ := oLeans (g := g) w R rf (xs (i + 1).toNatClampNeg)
  refine lv_aload_n hx hb dL_law_300 rfl (lv_at hl 2 rfl) ?_
  refine lv_aload_n hx hb dL_law_301 rfl (lv_at hl 1 rfl) ?_
  refine lv_iload_n hx hb dL_law_302 rfl (lv_at hl 0 rfl) ?_
  refine lv_iconst (v := 1) hx hb dL_law_303 (by decide) ?_
  refine lv_iadd hx hb dL_law_304 ?_
  refine va_sld hx hb hX hbl hbA hS hi1 dL_law_305 ?_
  refine cV_i (As := [.int (xs (i + 1).toNatClampNeg)]) (rest := []) F (kX4_leans l D cI cJ H.size g (a 0) (a 1) (a 7) (a 13) (a 19) (a 21) (a 24) (a 25) (a 26) (a 27) (a 2) (a 3) (a 4) (a 5) (a 6) hi (nI K) np nh na ns nd nx ny nc nk nf nl ne rf (xs (i + 1).toNatClampNeg) _ _ h4) (cwV 1 hts gL_law_X4_leans rfl rfl rfl eVX4_leans ⟨Nat.le_of_ble_eq_true rfl, Nat.le_of_ble_eq_true rfl⟩) [0, 1, 2, 3, 4, 5, 6, 27] hP hS (by decide) rfl rfl 0 rfl rfl rfl hl.1 (Nat.le_of_ble_eq_true rfl) ⟨Nat.le_refl _, Nat.le_refl _⟩ rfl dL_law_306 (fun H locs hP hS => ?_)
  have hP : WD D A (wl cI cJ a hi (nI K) np nh na ns nd nx ny nc nk nf nl ne tp th ta ts td tx ty tc tk tf tl te kp kh ka ks kd kx ky kc kk kf kl ke (nI L) sg wA wC wN ld nu en rf9 (rw1 t) (rw1 u) (rw1 im) (rw1 wa) hi sg nu rf (nI L) (nI K) rd n3 sd) H := hP
  refine lv_aload_n hx hb dL_law_309 rfl (lv_at hl 3 rfl) ?_
  refine lv_aload_n hx hb dL_law_310 rfl (lv_at hl 1 rfl) ?_
  refine lv_iload_n hx hb dL_law_311 rfl (lv_at hl 0 rfl) ?_
  refine lv_iconst (v := 1) hx hb dL_law_312 (by decide) ?_
  refine lv_iadd hx hb dL_law_313 ?_
  refine va_sld hx hb hX hbl hbA hS hi1 dL_law_314 ?_
  refine cV_i (As := [.int (xs (i + 1).toNatClampNeg)]) (rest := [.int r9]) F (kX5_leans l D cI cJ H.size g (a 28) (a 29) (a 30) (a 31) (a 32) (a 33) (a 34) (a 35) (a 36) hi (nI L) (nI K) rd sd (rw1 t) rf (xs (i + 1).toNatClampNeg) _ _ h5) (cwV 1 hts gL_law_X5_leans rfl rfl rfl eVX5_leans ⟨Nat.le_of_ble_eq_true rfl, Nat.le_of_ble_eq_true rfl⟩) [28, 29, 35] hP hS (by decide) rfl rfl 0 rfl rfl rfl hl.1 (Nat.le_of_ble_eq_true rfl) ⟨Nat.le_refl _, Nat.le_refl _⟩ rfl dL_law_315 (fun H locs hP hS => ?_)
  have hP : WD D A (wl cI cJ a hi (nI K) np nh na ns nd nx ny nc nk nf nl ne tp th ta ts td tx ty tc tk tf tl te kp kh ka ks kd kx ky kc kk kf kl ke (nI L) sg wA wC wN ld nu en rf9 (rw1 t) (rw1 u) (rw1 im) (rw1 wa) hi sg nu rf9 (nI L) (nI K) rd n3 sd) H := hP
  refine lv_icmp_eq (tgt := 1190) hx hb dL_law_318 (by decide) (fun _ => ?_) (fun h => absurd rfl h)
  exact ct H locs ⟨t, u, im, wa, L, K, hi, np, nh, na, ns, nd, nx, ny, tp, th, ta, ts, td, tx, ty, kp, kh, ka, ks, kd, kx, ky, ld, rd, sd, nc, nk, nf, nl, ne, tc, tk, tf, tl, te, kc, kk, kf, kl, ke, sg, nu, en, rf9, n3, wA, wC, wN, w, ht, R, T, hK, hu, him45, hwa, h01, him, hP⟩ hS
end PLW
