set_option maxHeartbeats 4000000 in
set_option maxRecDepth 100000 in
theorem case_read {p : Program} {l : Launch} {e : Env} {s : State} {m : MethodId} {below : List Frame} {meth : Method} {c : Code} {D : va_G} {k : Nat → ClassId} {b L : Nat} {xs : Nat → Int32} {a0 m0 qo : Nat} (C : lwCtx p l e s m below meth c D k b L xs) {Q : State → Prop} {j : Nat} (hj : 5 * j + 5 ≤ L) (hn : lwAt p l e s m below meth c D k b a0 m0 qo Q 1407 j (j + 1)) : lwAt p l e s m below meth c D k b a0 m0 qo Q 216 j j := by
  obtain ⟨hx, hb, hml, hown, hts, hX, hbl, hK, hXP, hXN, hNW, hL, hst⟩ := C
  intro th wb wm f H locs ls hI0 hP hD hS hl
  have hA : ∀ q : Nat, s.heap.size ≤ q → lwA s q := fun _ h => h
  have hbA : ¬ lwA s b := Nat.not_le.mpr hbl
  have in1 : vp_in (nI (5 * j) + 1) L := by
    rw [nI_1]
    exact vp_in_nI (by omega) (by omega)
  have in2 : vp_in (nI (5 * j) + 2) L := by
    rw [show (2 : Int32) = nI 2 from rfl, nI_add]
    exact vp_in_nI (by omega) (by omega)
  have in3 : vp_in (nI (5 * j) + 3) L := by
    rw [show (3 : Int32) = nI 3 from rfl, nI_add]
    exact vp_in_nI (by omega) (by omega)
  have in4 : vp_in (nI (5 * j) + 4) L := by
    rw [show (4 : Int32) = nI 4 from rfl, nI_add]
    exact vp_in_nI (by omega) (by omega)
  refine lv_aload_n hx hb dL_law_216 rfl (lv_at hl 1 rfl) ?_
  refine lv_aload_n hx hb dL_law_217 rfl (lv_at hl 0 rfl) ?_
  refine lv_iload hx hb dL_law_218 (lv_at hl 4 rfl) ?_
  refine lv_iconst (v := 1) hx hb dL_law_220 (by decide) ?_
  refine lv_iadd hx hb dL_law_221 ?_
  refine va_sld hx hb hX hbl hbA hS in1 dL_law_222 ?_
  refine lv_aload_n hx hb dL_law_223 rfl (lv_at hl 0 rfl) ?_
  refine lv_iload hx hb dL_law_224 (lv_at hl 4 rfl) ?_
  refine lv_iconst (v := 2) hx hb dL_law_226 (by decide) ?_
  refine lv_iadd hx hb dL_law_227 ?_
  refine va_sld hx hb hX hbl hbA hS in2 dL_law_228 ?_
  refine lv_aload_n hx hb dL_law_229 rfl (lv_at hl 3 rfl) ?_
  obtain ⟨kk, bb, r, wb', wm', hI, ⟨rm, mc, ms, ⟨hrc, hrs, hmc, hms, hfr, hlo⟩, hBM⟩, ⟨rm2, ⟨h2c, h2s, h2f, h2l⟩, hMM⟩, hrb⟩ := step_read l hst D k (xs (nI (5 * j) + 1).toNatClampNeg) (xs (nI (5 * j) + 2).toNatClampNeg) a0 m0 th wb wm hI0
  have hXPH := hXP.keep (H1 := H) (fun a h1 h2 => hS.2.1 a h1 h2)
  have hPc := vs_l hP
  have hDc := vd_l hD
  have hFc := vs_free hDc hS hA
  refine xc_iG (vx_runSW (As := [.ref a0, .int (xs (nI (5 * j) + 1).toNatClampNeg), .int (xs (nI (5 * j) + 2).toNatClampNeg), .ref qo]) (rest := []) ⟨hx, hb, hml, hown, hts⟩ (hBM qo f H.size) (vx_cwSW 4 hts gL_law_L_read rfl hrc hrs (by decide +kernel) ⟨by show rm.frames + 1 ≤ 2048; omega, by show 8 + (5 + 11) + rm.locals ≤ 84000; omega⟩) ⟨pz_blind, pz_start hPc hK hDc hXPH hXN hNW hFc⟩ rfl rfl hl.1 rfl (lv_room (Nat.le_of_ble_eq_true rfl)) dL_law_230 ⟨by show 200 + 8 * j + mc ≤ 601024; omega, by show 20000 + 429 * j + ms ≤ 7293034; omega⟩) hS hFc (fun u H1 locs hP1 hD1 hk1 hS => ?_)
  obtain ⟨hP, hD⟩ := vs_joinL hP hD hFc hk1 hP1 hD1
  clear hP1 hD1 hk1 hFc hPc hDc hXPH
  generalize H1 = H at hP hS ⊢
  refine lv_istore (lv' := [(5, .int kk), (0, .ref b), (1, .ref a0), (2, .ref m0), (3, .ref qo), (4, .int (nI (5 * j)))]) hx hb dL_law_233 hl (by decide) rfl (fun ls hl => ?_)
  refine lv_aload_n hx hb dL_law_235 rfl (lv_at hl 3 rfl) ?_
  refine lv_aload_n hx hb dL_law_236 rfl (lv_at hl 1 rfl) ?_
  refine lv_iload hx hb dL_law_237 (lv_at hl 5 rfl) ?_
  refine lv_iconst (v := 1) hx hb dL_law_239 (by decide) ?_
  refine lv_iadd hx hb dL_law_240 ?_
  refine va_sld hx hb hX hbl hbA hS in1 dL_law_241 ?_
  refine lv_aload_n hx hb dL_law_242 rfl (lv_at hl 1 rfl) ?_
  refine lv_iload hx hb dL_law_243 (lv_at hl 5 rfl) ?_
  refine lv_iconst (v := 2) hx hb dL_law_245 (by decide) ?_
  refine lv_iadd hx hb dL_law_246 ?_
  refine va_sld hx hb hX hbl hbA hS in2 dL_law_247 ?_
  obtain ⟨gs, hm0⟩ := INV_m hI0
  have hPc := vs_r hP
  have hDc := vd_r hD
  have hFc := vs_free hDc hS hA
  refine xc_i (va_runV (As := [.int (xs (nI (5 * j) + 1).toNatClampNeg), .int (xs (nI (5 * j) + 2).toNatClampNeg)]) (rest := []) ⟨hx, hb, hml, hown, hts⟩ (hMM H.size) (cwV 2 hts gL_law_X7_read rfl h2c h2s (by decide +kernel) ⟨by show rm2.frames + 1 ≤ 2048; omega, by show 8 + (9 + 11) + rm2.locals ≤ 84000; omega⟩) ⟨pw_blind, va_recv hK hPc (ci := 7) (q0 := 0) rfl hm0, pw_start hPc hK hDc⟩ rfl rfl hl.1 rfl (lv_room (Nat.le_of_ble_eq_true rfl)) dL_law_248 ⟨by show 200 + 8 * j + mc + 0 ≤ 601024; omega, by show 20000 + 429 * j + ms + 0 ≤ 7293034; omega⟩) hS hFc (fun H1 locs hP1 hD1 hk1 hS => ?_)
  obtain ⟨hP, hD⟩ := vs_joinR hP hD hFc hk1 hP1 hD1
  clear hP1 hD1 hk1 hFc hPc hDc hm0
  generalize H1 = H at hP hS ⊢
  refine lv_istore (lv' := [(6, .int bb), (5, .int kk), (0, .ref b), (1, .ref a0), (2, .ref m0), (3, .ref qo), (4, .int (nI (5 * j)))]) hx hb dL_law_251 hl (by decide) rfl (fun ls hl => ?_)
  refine lv_aload_n hx hb dL_law_253 rfl (lv_at hl 4 rfl) ?_
  obtain ⟨gs2, hm2⟩ := INV_m (hI u)
  have hPc := vs_r hP
  have hDc := vd_r hD
  have hFc := vs_free hDc hS hA
  refine xc_i (va_runV (As := []) (rest := []) ⟨hx, hb, hml, hown, hts⟩ (INV_thrown l D (hI u) H.size) (cwV 0 hts gL_law_X7_thrown rfl rfl rfl (by decide +kernel) ⟨Nat.le_of_ble_eq_true rfl, Nat.le_of_ble_eq_true rfl⟩) ⟨pw_blind, va_recv hK hPc (ci := 7) (q0 := 0) rfl hm2, pw_start hPc hK hDc⟩ rfl rfl hl.1 rfl (lv_room (Nat.le_of_ble_eq_true rfl)) dL_law_254 ⟨by show 200 + 8 * j + mc + 0 + 0 ≤ 601024; omega, by show 20000 + 429 * j + ms + 0 + 0 ≤ 7293034; omega⟩) hS hFc (fun H1 locs hP1 hD1 hk1 hS => ?_)
  obtain ⟨hP, hD⟩ := vs_joinR hP hD hFc hk1 hP1 hD1
  clear hP1 hD1 hk1 hFc hPc hDc hm2
  generalize H1 = H at hP hS ⊢
  refine lv_iload hx hb dL_law_257 (lv_at hl 1 rfl) ?_
  refine lv_icmp_eq (tgt := 264) hx hb dL_law_259 (by decide) (fun _ => ?_) (fun q => absurd rfl q)
  have fin : W p l e room_1 s m #[Value.ref b] below meth c H locs (200 + 8 * j + mc + 0 + 0) (20000 + 429 * j + ms + 0 + 0) Q (F0 m 281 ls []) := by
    refine lv_goto (tgt := 1407) hx hb dL_law_281 (by decide) ?_
    refine W.widen (k := 200 + 8 * (j + 1)) (n := 20000 + 429 * (j + 1)) (by omega) (by omega) ?_
    exact hn kk (wb' u) wm' _ H locs ls (hI u) hP hD hS (lv_sub hl [2, 3, 4, 5, 6] rfl)
  refine lv_iload hx hb dL_law_264 (lv_at hl 1 rfl) ?_
  refine lv_if_ne (tgt := 281) hx hb dL_law_266 (by decide) (fun _ => fin) (fun q => ?_)
  refine lv_aload_n hx hb dL_law_269 rfl (lv_at hl 5 rfl) ?_
  refine lv_iconst (v := 0) hx hb dL_law_270 (by decide) ?_
  refine va_lald hx hb hK hP 0 1 rfl rfl (vp_in_nI (n := 0) (N := 1) (by decide) (by decide)) dL_law_271 ?_
  refine lv_topl (fun y ey => ?_)
  have ey2 : y = bb.toInt64 := by
    rw [ey, if_pos q]
    exact (out0 f r _ (by decide)).trans (hrb q)
  subst ey2
  clear ey
  refine lv_iload hx hb dL_law_272 (lv_at hl 0 rfl) ?_
  refine lv_i2l hx hb dL_law_274 rfl ?_
  refine W.lcmp hx hb dL_law_275 ?_
  exact lv_if_eq (tgt := 281) hx hb dL_law_276 (by decide) (fun _ => fin) (fun q => absurd (lg_self _) q)
set_option maxHeartbeats 4000000 in
set_option maxRecDepth 100000 in
theorem case_unit {p : Program} {l : Launch} {e : Env} {s : State} {m : MethodId} {below : List Frame} {meth : Method} {c : Code} {D : va_G} {k : Nat → ClassId} {b L : Nat} {xs : Nat → Int32} {a0 m0 qo : Nat} (C : lwCtx p l e s m below meth c D k b L xs) {Q : State → Prop} {j : Nat} (hj : 5 * j + 5 ≤ L) (hn : lwAt p l e s m below meth c D k b a0 m0 qo Q 1407 j (j + 1)) : lwAt p l e s m below meth c D k b a0 m0 qo Q 284 j j := by
  obtain ⟨hx, hb, hml, hown, hts, hX, hbl, hK, hXP, hXN, hNW, hL, hst⟩ := C
  intro th wb wm f H locs ls hI0 hP hD hS hl
  have hA : ∀ q : Nat, s.heap.size ≤ q → lwA s q := fun _ h => h
  have hbA : ¬ lwA s b := Nat.not_le.mpr hbl
  have in1 : vp_in (nI (5 * j) + 1) L := by
    rw [nI_1]
    exact vp_in_nI (by omega) (by omega)
  have in2 : vp_in (nI (5 * j) + 2) L := by
    rw [show (2 : Int32) = nI 2 from rfl, nI_add]
    exact vp_in_nI (by omega) (by omega)
  have in3 : vp_in (nI (5 * j) + 3) L := by
    rw [show (3 : Int32) = nI 3 from rfl, nI_add]
    exact vp_in_nI (by omega) (by omega)
  have in4 : vp_in (nI (5 * j) + 4) L := by
    rw [show (4 : Int32) = nI 4 from rfl, nI_add]
    exact vp_in_nI (by omega) (by omega)
  refine lv_aload_n hx hb dL_law_284 rfl (lv_at hl 1 rfl) ?_
  refine lv_aload_n hx hb dL_law_285 rfl (lv_at hl 0 rfl) ?_
  refine lv_iload hx hb dL_law_286 (lv_at hl 4 rfl) ?_
  refine lv_iconst (v := 1) hx hb dL_law_288 (by decide) ?_
  refine lv_iadd hx hb dL_law_289 ?_
  refine va_sld hx hb hX hbl hbA hS in1 dL_law_290 ?_
  refine lv_aload_n hx hb dL_law_291 rfl (lv_at hl 0 rfl) ?_
  refine lv_iload hx hb dL_law_292 (lv_at hl 4 rfl) ?_
  refine lv_iconst (v := 2) hx hb dL_law_294 (by decide) ?_
  refine lv_iadd hx hb dL_law_295 ?_
  refine va_sld hx hb hX hbl hbA hS in2 dL_law_296 ?_
  refine lv_aload_n hx hb dL_law_297 rfl (lv_at hl 0 rfl) ?_
  refine lv_iload hx hb dL_law_298 (lv_at hl 4 rfl) ?_
  refine lv_iconst (v := 3) hx hb dL_law_300 (by decide) ?_
  refine lv_iadd hx hb dL_law_301 ?_
  refine va_sld hx hb hX hbl hbA hS in3 dL_law_302 ?_
  refine lv_aload_n hx hb dL_law_303 rfl (lv_at hl 3 rfl) ?_
  obtain ⟨kk, bb, r, wb', wm', hI, ⟨rm, mc, ms, ⟨hrc, hrs, hmc, hms, hfr, hlo⟩, hBM⟩, ⟨rm2, ⟨h2c, h2s, h2f, h2l⟩, hMM⟩, hrb⟩ := step_unit l hst D k (xs (nI (5 * j) + 1).toNatClampNeg) (xs (nI (5 * j) + 2).toNatClampNeg) (xs (nI (5 * j) + 3).toNatClampNeg) a0 m0 th wb wm hI0
  have hXPH := hXP.keep (H1 := H) (fun a h1 h2 => hS.2.1 a h1 h2)
  have hPc := vs_l hP
  have hDc := vd_l hD
  have hFc := vs_free hDc hS hA
  refine xc_iG (vx_runSW (As := [.ref a0, .int (xs (nI (5 * j) + 1).toNatClampNeg), .int (xs (nI (5 * j) + 2).toNatClampNeg), .int (xs (nI (5 * j) + 3).toNatClampNeg), .ref qo]) (rest := []) ⟨hx, hb, hml, hown, hts⟩ (hBM qo f H.size) (vx_cwSW 5 hts gL_law_L_unit rfl hrc hrs (by decide +kernel) ⟨by show rm.frames + 1 ≤ 2048; omega, by show 8 + (6 + 11) + rm.locals ≤ 84000; omega⟩) ⟨pz_blind, pz_start hPc hK hDc hXPH hXN hNW hFc⟩ rfl rfl hl.1 rfl (lv_room (Nat.le_of_ble_eq_true rfl)) dL_law_304 ⟨by show 200 + 8 * j + mc ≤ 601024; omega, by show 20000 + 429 * j + ms ≤ 7293034; omega⟩) hS hFc (fun u H1 locs hP1 hD1 hk1 hS => ?_)
  obtain ⟨hP, hD⟩ := vs_joinL hP hD hFc hk1 hP1 hD1
  clear hP1 hD1 hk1 hFc hPc hDc hXPH
  generalize H1 = H at hP hS ⊢
  refine lv_istore (lv' := [(5, .int kk), (0, .ref b), (1, .ref a0), (2, .ref m0), (3, .ref qo), (4, .int (nI (5 * j)))]) hx hb dL_law_307 hl (by decide) rfl (fun ls hl => ?_)
  refine lv_aload_n hx hb dL_law_309 rfl (lv_at hl 3 rfl) ?_
  refine lv_aload_n hx hb dL_law_310 rfl (lv_at hl 1 rfl) ?_
  refine lv_iload hx hb dL_law_311 (lv_at hl 5 rfl) ?_
  refine lv_iconst (v := 1) hx hb dL_law_313 (by decide) ?_
  refine lv_iadd hx hb dL_law_314 ?_
  refine va_sld hx hb hX hbl hbA hS in1 dL_law_315 ?_
  refine lv_aload_n hx hb dL_law_316 rfl (lv_at hl 1 rfl) ?_
  refine lv_iload hx hb dL_law_317 (lv_at hl 5 rfl) ?_
  refine lv_iconst (v := 2) hx hb dL_law_319 (by decide) ?_
  refine lv_iadd hx hb dL_law_320 ?_
  refine va_sld hx hb hX hbl hbA hS in2 dL_law_321 ?_
  refine lv_aload_n hx hb dL_law_322 rfl (lv_at hl 1 rfl) ?_
  refine lv_iload hx hb dL_law_323 (lv_at hl 5 rfl) ?_
  refine lv_iconst (v := 3) hx hb dL_law_325 (by decide) ?_
  refine lv_iadd hx hb dL_law_326 ?_
  refine va_sld hx hb hX hbl hbA hS in3 dL_law_327 ?_
  obtain ⟨gs, hm0⟩ := INV_m hI0
  have hPc := vs_r hP
  have hDc := vd_r hD
  have hFc := vs_free hDc hS hA
  refine xc_i (va_runV (As := [.int (xs (nI (5 * j) + 1).toNatClampNeg), .int (xs (nI (5 * j) + 2).toNatClampNeg), .int (xs (nI (5 * j) + 3).toNatClampNeg)]) (rest := []) ⟨hx, hb, hml, hown, hts⟩ (hMM H.size) (cwV 3 hts gL_law_X7_unit rfl h2c h2s (by decide +kernel) ⟨by show rm2.frames + 1 ≤ 2048; omega, by show 8 + (6 + 11) + rm2.locals ≤ 84000; omega⟩) ⟨pw_blind, va_recv hK hPc (ci := 7) (q0 := 0) rfl hm0, pw_start hPc hK hDc⟩ rfl rfl hl.1 rfl (lv_room (Nat.le_of_ble_eq_true rfl)) dL_law_328 ⟨by show 200 + 8 * j + mc + 0 ≤ 601024; omega, by show 20000 + 429 * j + ms + 0 ≤ 7293034; omega⟩) hS hFc (fun H1 locs hP1 hD1 hk1 hS => ?_)
  obtain ⟨hP, hD⟩ := vs_joinR hP hD hFc hk1 hP1 hD1
  clear hP1 hD1 hk1 hFc hPc hDc hm0
  generalize H1 = H at hP hS ⊢
  refine lv_istore (lv' := [(6, .int bb), (5, .int kk), (0, .ref b), (1, .ref a0), (2, .ref m0), (3, .ref qo), (4, .int (nI (5 * j)))]) hx hb dL_law_331 hl (by decide) rfl (fun ls hl => ?_)
  refine lv_aload_n hx hb dL_law_333 rfl (lv_at hl 4 rfl) ?_
  obtain ⟨gs2, hm2⟩ := INV_m (hI u)
  have hPc := vs_r hP
  have hDc := vd_r hD
  have hFc := vs_free hDc hS hA
  refine xc_i (va_runV (As := []) (rest := []) ⟨hx, hb, hml, hown, hts⟩ (INV_thrown l D (hI u) H.size) (cwV 0 hts gL_law_X7_thrown rfl rfl rfl (by decide +kernel) ⟨Nat.le_of_ble_eq_true rfl, Nat.le_of_ble_eq_true rfl⟩) ⟨pw_blind, va_recv hK hPc (ci := 7) (q0 := 0) rfl hm2, pw_start hPc hK hDc⟩ rfl rfl hl.1 rfl (lv_room (Nat.le_of_ble_eq_true rfl)) dL_law_334 ⟨by show 200 + 8 * j + mc + 0 + 0 ≤ 601024; omega, by show 20000 + 429 * j + ms + 0 + 0 ≤ 7293034; omega⟩) hS hFc (fun H1 locs hP1 hD1 hk1 hS => ?_)
  obtain ⟨hP, hD⟩ := vs_joinR hP hD hFc hk1 hP1 hD1
  clear hP1 hD1 hk1 hFc hPc hDc hm2
  generalize H1 = H at hP hS ⊢
  refine lv_iload hx hb dL_law_337 (lv_at hl 1 rfl) ?_
  refine lv_icmp_eq (tgt := 344) hx hb dL_law_339 (by decide) (fun _ => ?_) (fun q => absurd rfl q)
  have fin : W p l e room_1 s m #[Value.ref b] below meth c H locs (200 + 8 * j + mc + 0 + 0) (20000 + 429 * j + ms + 0 + 0) Q (F0 m 361 ls []) := by
    refine lv_goto (tgt := 1407) hx hb dL_law_361 (by decide) ?_
    refine W.widen (k := 200 + 8 * (j + 1)) (n := 20000 + 429 * (j + 1)) (by omega) (by omega) ?_
    exact hn kk (wb' u) wm' _ H locs ls (hI u) hP hD hS (lv_sub hl [2, 3, 4, 5, 6] rfl)
  refine lv_iload hx hb dL_law_344 (lv_at hl 1 rfl) ?_
  refine lv_if_ne (tgt := 361) hx hb dL_law_346 (by decide) (fun _ => fin) (fun q => ?_)
  refine lv_aload_n hx hb dL_law_349 rfl (lv_at hl 5 rfl) ?_
  refine lv_iconst (v := 0) hx hb dL_law_350 (by decide) ?_
  refine va_lald hx hb hK hP 0 1 rfl rfl (vp_in_nI (n := 0) (N := 1) (by decide) (by decide)) dL_law_351 ?_
  refine lv_topl (fun y ey => ?_)
  have ey2 : y = bb.toInt64 := by
    rw [ey, if_pos q]
    exact (out0 f r _ (by decide)).trans (hrb q)
  subst ey2
  clear ey
  refine lv_iload hx hb dL_law_352 (lv_at hl 0 rfl) ?_
  refine lv_i2l hx hb dL_law_354 rfl ?_
  refine W.lcmp hx hb dL_law_355 ?_
  exact lv_if_eq (tgt := 361) hx hb dL_law_356 (by decide) (fun _ => fin) (fun q => absurd (lg_self _) q)
set_option maxHeartbeats 4000000 in
set_option maxRecDepth 100000 in
theorem case_together {p : Program} {l : Launch} {e : Env} {s : State} {m : MethodId} {below : List Frame} {meth : Method} {c : Code} {D : va_G} {k : Nat → ClassId} {b L : Nat} {xs : Nat → Int32} {a0 m0 qo : Nat} (C : lwCtx p l e s m below meth c D k b L xs) {Q : State → Prop} {j : Nat} (hj : 5 * j + 5 ≤ L) (hn : lwAt p l e s m below meth c D k b a0 m0 qo Q 1407 j (j + 1)) : lwAt p l e s m below meth c D k b a0 m0 qo Q 364 j j := by
  obtain ⟨hx, hb, hml, hown, hts, hX, hbl, hK, hXP, hXN, hNW, hL, hst⟩ := C
  intro th wb wm f H locs ls hI0 hP hD hS hl
  have hA : ∀ q : Nat, s.heap.size ≤ q → lwA s q := fun _ h => h
  have hbA : ¬ lwA s b := Nat.not_le.mpr hbl
  have in1 : vp_in (nI (5 * j) + 1) L := by
    rw [nI_1]
    exact vp_in_nI (by omega) (by omega)
  have in2 : vp_in (nI (5 * j) + 2) L := by
    rw [show (2 : Int32) = nI 2 from rfl, nI_add]
    exact vp_in_nI (by omega) (by omega)
  have in3 : vp_in (nI (5 * j) + 3) L := by
    rw [show (3 : Int32) = nI 3 from rfl, nI_add]
    exact vp_in_nI (by omega) (by omega)
  have in4 : vp_in (nI (5 * j) + 4) L := by
    rw [show (4 : Int32) = nI 4 from rfl, nI_add]
    exact vp_in_nI (by omega) (by omega)
  refine lv_aload_n hx hb dL_law_364 rfl (lv_at hl 1 rfl) ?_
  refine lv_aload_n hx hb dL_law_365 rfl (lv_at hl 0 rfl) ?_
  refine lv_iload hx hb dL_law_366 (lv_at hl 4 rfl) ?_
  refine lv_iconst (v := 1) hx hb dL_law_368 (by decide) ?_
  refine lv_iadd hx hb dL_law_369 ?_
  refine va_sld hx hb hX hbl hbA hS in1 dL_law_370 ?_
  refine lv_aload_n hx hb dL_law_371 rfl (lv_at hl 0 rfl) ?_
  refine lv_iload hx hb dL_law_372 (lv_at hl 4 rfl) ?_
  refine lv_iconst (v := 2) hx hb dL_law_374 (by decide) ?_
  refine lv_iadd hx hb dL_law_375 ?_
  refine va_sld hx hb hX hbl hbA hS in2 dL_law_376 ?_
  refine lv_aload_n hx hb dL_law_377 rfl (lv_at hl 0 rfl) ?_
  refine lv_iload hx hb dL_law_378 (lv_at hl 4 rfl) ?_
  refine lv_iconst (v := 3) hx hb dL_law_380 (by decide) ?_
  refine lv_iadd hx hb dL_law_381 ?_
  refine va_sld hx hb hX hbl hbA hS in3 dL_law_382 ?_
  refine lv_aload_n hx hb dL_law_383 rfl (lv_at hl 3 rfl) ?_
  obtain ⟨kk, bb, r, wb', wm', hI, ⟨rm, mc, ms, ⟨hrc, hrs, hmc, hms, hfr, hlo⟩, hBM⟩, ⟨rm2, ⟨h2c, h2s, h2f, h2l⟩, hMM⟩, hrb⟩ := step_together l hst D k (xs (nI (5 * j) + 1).toNatClampNeg) (xs (nI (5 * j) + 2).toNatClampNeg) (xs (nI (5 * j) + 3).toNatClampNeg) a0 m0 th wb wm hI0
  have hXPH := hXP.keep (H1 := H) (fun a h1 h2 => hS.2.1 a h1 h2)
  have hPc := vs_l hP
  have hDc := vd_l hD
  have hFc := vs_free hDc hS hA
  refine xc_iG (vx_runSW (As := [.ref a0, .int (xs (nI (5 * j) + 1).toNatClampNeg), .int (xs (nI (5 * j) + 2).toNatClampNeg), .int (xs (nI (5 * j) + 3).toNatClampNeg), .ref qo]) (rest := []) ⟨hx, hb, hml, hown, hts⟩ (hBM qo f H.size) (vx_cwSW 5 hts gL_law_L_together rfl hrc hrs (by decide +kernel) ⟨by show rm.frames + 1 ≤ 2048; omega, by show 8 + (6 + 11) + rm.locals ≤ 84000; omega⟩) ⟨pz_blind, pz_start hPc hK hDc hXPH hXN hNW hFc⟩ rfl rfl hl.1 rfl (lv_room (Nat.le_of_ble_eq_true rfl)) dL_law_384 ⟨by show 200 + 8 * j + mc ≤ 601024; omega, by show 20000 + 429 * j + ms ≤ 7293034; omega⟩) hS hFc (fun u H1 locs hP1 hD1 hk1 hS => ?_)
  obtain ⟨hP, hD⟩ := vs_joinL hP hD hFc hk1 hP1 hD1
  clear hP1 hD1 hk1 hFc hPc hDc hXPH
  generalize H1 = H at hP hS ⊢
  refine lv_istore (lv' := [(5, .int kk), (0, .ref b), (1, .ref a0), (2, .ref m0), (3, .ref qo), (4, .int (nI (5 * j)))]) hx hb dL_law_387 hl (by decide) rfl (fun ls hl => ?_)
  refine lv_aload_n hx hb dL_law_389 rfl (lv_at hl 3 rfl) ?_
  refine lv_aload_n hx hb dL_law_390 rfl (lv_at hl 1 rfl) ?_
  refine lv_iload hx hb dL_law_391 (lv_at hl 5 rfl) ?_
  refine lv_iconst (v := 1) hx hb dL_law_393 (by decide) ?_
  refine lv_iadd hx hb dL_law_394 ?_
  refine va_sld hx hb hX hbl hbA hS in1 dL_law_395 ?_
  refine lv_aload_n hx hb dL_law_396 rfl (lv_at hl 1 rfl) ?_
  refine lv_iload hx hb dL_law_397 (lv_at hl 5 rfl) ?_
  refine lv_iconst (v := 2) hx hb dL_law_399 (by decide) ?_
  refine lv_iadd hx hb dL_law_400 ?_
  refine va_sld hx hb hX hbl hbA hS in2 dL_law_401 ?_
  refine lv_aload_n hx hb dL_law_402 rfl (lv_at hl 1 rfl) ?_
  refine lv_iload hx hb dL_law_403 (lv_at hl 5 rfl) ?_
  refine lv_iconst (v := 3) hx hb dL_law_405 (by decide) ?_
  refine lv_iadd hx hb dL_law_406 ?_
  refine va_sld hx hb hX hbl hbA hS in3 dL_law_407 ?_
  obtain ⟨gs, hm0⟩ := INV_m hI0
  have hPc := vs_r hP
  have hDc := vd_r hD
  have hFc := vs_free hDc hS hA
  refine xc_i (va_runV (As := [.int (xs (nI (5 * j) + 1).toNatClampNeg), .int (xs (nI (5 * j) + 2).toNatClampNeg), .int (xs (nI (5 * j) + 3).toNatClampNeg)]) (rest := []) ⟨hx, hb, hml, hown, hts⟩ (hMM H.size) (cwV 3 hts gL_law_X7_together rfl h2c h2s (by decide +kernel) ⟨by show rm2.frames + 1 ≤ 2048; omega, by show 8 + (6 + 11) + rm2.locals ≤ 84000; omega⟩) ⟨pw_blind, va_recv hK hPc (ci := 7) (q0 := 0) rfl hm0, pw_start hPc hK hDc⟩ rfl rfl hl.1 rfl (lv_room (Nat.le_of_ble_eq_true rfl)) dL_law_408 ⟨by show 200 + 8 * j + mc + 0 ≤ 601024; omega, by show 20000 + 429 * j + ms + 0 ≤ 7293034; omega⟩) hS hFc (fun H1 locs hP1 hD1 hk1 hS => ?_)
  obtain ⟨hP, hD⟩ := vs_joinR hP hD hFc hk1 hP1 hD1
  clear hP1 hD1 hk1 hFc hPc hDc hm0
  generalize H1 = H at hP hS ⊢
  refine lv_istore (lv' := [(6, .int bb), (5, .int kk), (0, .ref b), (1, .ref a0), (2, .ref m0), (3, .ref qo), (4, .int (nI (5 * j)))]) hx hb dL_law_411 hl (by decide) rfl (fun ls hl => ?_)
  refine lv_aload_n hx hb dL_law_413 rfl (lv_at hl 4 rfl) ?_
  obtain ⟨gs2, hm2⟩ := INV_m (hI u)
  have hPc := vs_r hP
  have hDc := vd_r hD
  have hFc := vs_free hDc hS hA
  refine xc_i (va_runV (As := []) (rest := []) ⟨hx, hb, hml, hown, hts⟩ (INV_thrown l D (hI u) H.size) (cwV 0 hts gL_law_X7_thrown rfl rfl rfl (by decide +kernel) ⟨Nat.le_of_ble_eq_true rfl, Nat.le_of_ble_eq_true rfl⟩) ⟨pw_blind, va_recv hK hPc (ci := 7) (q0 := 0) rfl hm2, pw_start hPc hK hDc⟩ rfl rfl hl.1 rfl (lv_room (Nat.le_of_ble_eq_true rfl)) dL_law_414 ⟨by show 200 + 8 * j + mc + 0 + 0 ≤ 601024; omega, by show 20000 + 429 * j + ms + 0 + 0 ≤ 7293034; omega⟩) hS hFc (fun H1 locs hP1 hD1 hk1 hS => ?_)
  obtain ⟨hP, hD⟩ := vs_joinR hP hD hFc hk1 hP1 hD1
  clear hP1 hD1 hk1 hFc hPc hDc hm2
  generalize H1 = H at hP hS ⊢
  refine lv_iload hx hb dL_law_417 (lv_at hl 1 rfl) ?_
  refine lv_icmp_eq (tgt := 424) hx hb dL_law_419 (by decide) (fun _ => ?_) (fun q => absurd rfl q)
  have fin : W p l e room_1 s m #[Value.ref b] below meth c H locs (200 + 8 * j + mc + 0 + 0) (20000 + 429 * j + ms + 0 + 0) Q (F0 m 441 ls []) := by
    refine lv_goto (tgt := 1407) hx hb dL_law_441 (by decide) ?_
    refine W.widen (k := 200 + 8 * (j + 1)) (n := 20000 + 429 * (j + 1)) (by omega) (by omega) ?_
    exact hn kk (wb' u) wm' _ H locs ls (hI u) hP hD hS (lv_sub hl [2, 3, 4, 5, 6] rfl)
  refine lv_iload hx hb dL_law_424 (lv_at hl 1 rfl) ?_
  refine lv_if_ne (tgt := 441) hx hb dL_law_426 (by decide) (fun _ => fin) (fun q => ?_)
  refine lv_aload_n hx hb dL_law_429 rfl (lv_at hl 5 rfl) ?_
  refine lv_iconst (v := 0) hx hb dL_law_430 (by decide) ?_
  refine va_lald hx hb hK hP 0 1 rfl rfl (vp_in_nI (n := 0) (N := 1) (by decide) (by decide)) dL_law_431 ?_
  refine lv_topl (fun y ey => ?_)
  have ey2 : y = bb.toInt64 := by
    rw [ey, if_pos q]
    exact (out0 f r _ (by decide)).trans (hrb q)
  subst ey2
  clear ey
  refine lv_iload hx hb dL_law_432 (lv_at hl 0 rfl) ?_
  refine lv_i2l hx hb dL_law_434 rfl ?_
  refine W.lcmp hx hb dL_law_435 ?_
  exact lv_if_eq (tgt := 441) hx hb dL_law_436 (by decide) (fun _ => fin) (fun q => absurd (lg_self _) q)
set_option maxHeartbeats 4000000 in
set_option maxRecDepth 100000 in
theorem case_input {p : Program} {l : Launch} {e : Env} {s : State} {m : MethodId} {below : List Frame} {meth : Method} {c : Code} {D : va_G} {k : Nat → ClassId} {b L : Nat} {xs : Nat → Int32} {a0 m0 qo : Nat} (C : lwCtx p l e s m below meth c D k b L xs) {Q : State → Prop} {j : Nat} (hj : 5 * j + 5 ≤ L) (hn : lwAt p l e s m below meth c D k b a0 m0 qo Q 1407 j (j + 1)) : lwAt p l e s m below meth c D k b a0 m0 qo Q 444 j j := by
  obtain ⟨hx, hb, hml, hown, hts, hX, hbl, hK, hXP, hXN, hNW, hL, hst⟩ := C
  intro th wb wm f H locs ls hI0 hP hD hS hl
  have hA : ∀ q : Nat, s.heap.size ≤ q → lwA s q := fun _ h => h
  have hbA : ¬ lwA s b := Nat.not_le.mpr hbl
  have in1 : vp_in (nI (5 * j) + 1) L := by
    rw [nI_1]
    exact vp_in_nI (by omega) (by omega)
  have in2 : vp_in (nI (5 * j) + 2) L := by
    rw [show (2 : Int32) = nI 2 from rfl, nI_add]
    exact vp_in_nI (by omega) (by omega)
  have in3 : vp_in (nI (5 * j) + 3) L := by
    rw [show (3 : Int32) = nI 3 from rfl, nI_add]
    exact vp_in_nI (by omega) (by omega)
  have in4 : vp_in (nI (5 * j) + 4) L := by
    rw [show (4 : Int32) = nI 4 from rfl, nI_add]
    exact vp_in_nI (by omega) (by omega)
  refine lv_aload_n hx hb dL_law_444 rfl (lv_at hl 1 rfl) ?_
  refine lv_aload_n hx hb dL_law_445 rfl (lv_at hl 0 rfl) ?_
  refine lv_iload hx hb dL_law_446 (lv_at hl 4 rfl) ?_
  refine lv_iconst (v := 1) hx hb dL_law_448 (by decide) ?_
  refine lv_iadd hx hb dL_law_449 ?_
  refine va_sld hx hb hX hbl hbA hS in1 dL_law_450 ?_
  refine lv_aload_n hx hb dL_law_451 rfl (lv_at hl 0 rfl) ?_
  refine lv_iload hx hb dL_law_452 (lv_at hl 4 rfl) ?_
  refine lv_iconst (v := 2) hx hb dL_law_454 (by decide) ?_
  refine lv_iadd hx hb dL_law_455 ?_
  refine va_sld hx hb hX hbl hbA hS in2 dL_law_456 ?_
  refine lv_aload_n hx hb dL_law_457 rfl (lv_at hl 3 rfl) ?_
  obtain ⟨kk, bb, r, wb', wm', hI, ⟨rm, mc, ms, ⟨hrc, hrs, hmc, hms, hfr, hlo⟩, hBM⟩, ⟨rm2, ⟨h2c, h2s, h2f, h2l⟩, hMM⟩, hrb⟩ := step_input l hst D k (xs (nI (5 * j) + 1).toNatClampNeg) (xs (nI (5 * j) + 2).toNatClampNeg) a0 m0 th wb wm hI0
  have hXPH := hXP.keep (H1 := H) (fun a h1 h2 => hS.2.1 a h1 h2)
  have hPc := vs_l hP
  have hDc := vd_l hD
  have hFc := vs_free hDc hS hA
  refine xc_iG (vx_runSW (As := [.ref a0, .int (xs (nI (5 * j) + 1).toNatClampNeg), .int (xs (nI (5 * j) + 2).toNatClampNeg), .ref qo]) (rest := []) ⟨hx, hb, hml, hown, hts⟩ (hBM qo f H.size) (vx_cwSW 4 hts gL_law_L_input rfl hrc hrs (by decide +kernel) ⟨by show rm.frames + 1 ≤ 2048; omega, by show 8 + (5 + 11) + rm.locals ≤ 84000; omega⟩) ⟨pz_blind, pz_start hPc hK hDc hXPH hXN hNW hFc⟩ rfl rfl hl.1 rfl (lv_room (Nat.le_of_ble_eq_true rfl)) dL_law_458 ⟨by show 200 + 8 * j + mc ≤ 601024; omega, by show 20000 + 429 * j + ms ≤ 7293034; omega⟩) hS hFc (fun u H1 locs hP1 hD1 hk1 hS => ?_)
  obtain ⟨hP, hD⟩ := vs_joinL hP hD hFc hk1 hP1 hD1
  clear hP1 hD1 hk1 hFc hPc hDc hXPH
  generalize H1 = H at hP hS ⊢
  refine lv_istore (lv' := [(5, .int kk), (0, .ref b), (1, .ref a0), (2, .ref m0), (3, .ref qo), (4, .int (nI (5 * j)))]) hx hb dL_law_461 hl (by decide) rfl (fun ls hl => ?_)
  refine lv_aload_n hx hb dL_law_463 rfl (lv_at hl 3 rfl) ?_
  refine lv_aload_n hx hb dL_law_464 rfl (lv_at hl 1 rfl) ?_
  refine lv_iload hx hb dL_law_465 (lv_at hl 5 rfl) ?_
  refine lv_iconst (v := 1) hx hb dL_law_467 (by decide) ?_
  refine lv_iadd hx hb dL_law_468 ?_
  refine va_sld hx hb hX hbl hbA hS in1 dL_law_469 ?_
  refine lv_aload_n hx hb dL_law_470 rfl (lv_at hl 1 rfl) ?_
  refine lv_iload hx hb dL_law_471 (lv_at hl 5 rfl) ?_
  refine lv_iconst (v := 2) hx hb dL_law_473 (by decide) ?_
  refine lv_iadd hx hb dL_law_474 ?_
  refine va_sld hx hb hX hbl hbA hS in2 dL_law_475 ?_
  obtain ⟨gs, hm0⟩ := INV_m hI0
  have hPc := vs_r hP
  have hDc := vd_r hD
  have hFc := vs_free hDc hS hA
  refine xc_i (va_runV (As := [.int (xs (nI (5 * j) + 1).toNatClampNeg), .int (xs (nI (5 * j) + 2).toNatClampNeg)]) (rest := []) ⟨hx, hb, hml, hown, hts⟩ (hMM H.size) (cwV 2 hts gL_law_X7_input rfl h2c h2s (by decide +kernel) ⟨by show rm2.frames + 1 ≤ 2048; omega, by show 8 + (3 + 11) + rm2.locals ≤ 84000; omega⟩) ⟨pw_blind, va_recv hK hPc (ci := 7) (q0 := 0) rfl hm0, pw_start hPc hK hDc⟩ rfl rfl hl.1 rfl (lv_room (Nat.le_of_ble_eq_true rfl)) dL_law_476 ⟨by show 200 + 8 * j + mc + 0 ≤ 601024; omega, by show 20000 + 429 * j + ms + 0 ≤ 7293034; omega⟩) hS hFc (fun H1 locs hP1 hD1 hk1 hS => ?_)
  obtain ⟨hP, hD⟩ := vs_joinR hP hD hFc hk1 hP1 hD1
  clear hP1 hD1 hk1 hFc hPc hDc hm0
  generalize H1 = H at hP hS ⊢
  refine lv_istore (lv' := [(6, .int bb), (5, .int kk), (0, .ref b), (1, .ref a0), (2, .ref m0), (3, .ref qo), (4, .int (nI (5 * j)))]) hx hb dL_law_479 hl (by decide) rfl (fun ls hl => ?_)
  refine lv_aload_n hx hb dL_law_481 rfl (lv_at hl 4 rfl) ?_
  obtain ⟨gs2, hm2⟩ := INV_m (hI u)
  have hPc := vs_r hP
  have hDc := vd_r hD
  have hFc := vs_free hDc hS hA
  refine xc_i (va_runV (As := []) (rest := []) ⟨hx, hb, hml, hown, hts⟩ (INV_thrown l D (hI u) H.size) (cwV 0 hts gL_law_X7_thrown rfl rfl rfl (by decide +kernel) ⟨Nat.le_of_ble_eq_true rfl, Nat.le_of_ble_eq_true rfl⟩) ⟨pw_blind, va_recv hK hPc (ci := 7) (q0 := 0) rfl hm2, pw_start hPc hK hDc⟩ rfl rfl hl.1 rfl (lv_room (Nat.le_of_ble_eq_true rfl)) dL_law_482 ⟨by show 200 + 8 * j + mc + 0 + 0 ≤ 601024; omega, by show 20000 + 429 * j + ms + 0 + 0 ≤ 7293034; omega⟩) hS hFc (fun H1 locs hP1 hD1 hk1 hS => ?_)
  obtain ⟨hP, hD⟩ := vs_joinR hP hD hFc hk1 hP1 hD1
  clear hP1 hD1 hk1 hFc hPc hDc hm2
  generalize H1 = H at hP hS ⊢
  refine lv_iload hx hb dL_law_485 (lv_at hl 1 rfl) ?_
  refine lv_icmp_eq (tgt := 492) hx hb dL_law_487 (by decide) (fun _ => ?_) (fun q => absurd rfl q)
  have fin : W p l e room_1 s m #[Value.ref b] below meth c H locs (200 + 8 * j + mc + 0 + 0) (20000 + 429 * j + ms + 0 + 0) Q (F0 m 509 ls []) := by
    refine lv_goto (tgt := 1407) hx hb dL_law_509 (by decide) ?_
    refine W.widen (k := 200 + 8 * (j + 1)) (n := 20000 + 429 * (j + 1)) (by omega) (by omega) ?_
    exact hn kk (wb' u) wm' _ H locs ls (hI u) hP hD hS (lv_sub hl [2, 3, 4, 5, 6] rfl)
  refine lv_iload hx hb dL_law_492 (lv_at hl 1 rfl) ?_
  refine lv_if_ne (tgt := 509) hx hb dL_law_494 (by decide) (fun _ => fin) (fun q => ?_)
  refine lv_aload_n hx hb dL_law_497 rfl (lv_at hl 5 rfl) ?_
  refine lv_iconst (v := 0) hx hb dL_law_498 (by decide) ?_
  refine va_lald hx hb hK hP 0 1 rfl rfl (vp_in_nI (n := 0) (N := 1) (by decide) (by decide)) dL_law_499 ?_
  refine lv_topl (fun y ey => ?_)
  have ey2 : y = bb.toInt64 := by
    rw [ey, if_pos q]
    exact (out0 f r _ (by decide)).trans (hrb q)
  subst ey2
  clear ey
  refine lv_iload hx hb dL_law_500 (lv_at hl 0 rfl) ?_
  refine lv_i2l hx hb dL_law_502 rfl ?_
  refine W.lcmp hx hb dL_law_503 ?_
  exact lv_if_eq (tgt := 509) hx hb dL_law_504 (by decide) (fun _ => fin) (fun q => absurd (lg_self _) q)
set_option maxHeartbeats 4000000 in
set_option maxRecDepth 100000 in
theorem case_type {p : Program} {l : Launch} {e : Env} {s : State} {m : MethodId} {below : List Frame} {meth : Method} {c : Code} {D : va_G} {k : Nat → ClassId} {b L : Nat} {xs : Nat → Int32} {a0 m0 qo : Nat} (C : lwCtx p l e s m below meth c D k b L xs) {Q : State → Prop} {j : Nat} (hj : 5 * j + 5 ≤ L) (hn : lwAt p l e s m below meth c D k b a0 m0 qo Q 1407 j (j + 1)) : lwAt p l e s m below meth c D k b a0 m0 qo Q 512 j j := by
  obtain ⟨hx, hb, hml, hown, hts, hX, hbl, hK, hXP, hXN, hNW, hL, hst⟩ := C
  intro th wb wm f H locs ls hI0 hP hD hS hl
  have hA : ∀ q : Nat, s.heap.size ≤ q → lwA s q := fun _ h => h
  have hbA : ¬ lwA s b := Nat.not_le.mpr hbl
  have in1 : vp_in (nI (5 * j) + 1) L := by
    rw [nI_1]
    exact vp_in_nI (by omega) (by omega)
  have in2 : vp_in (nI (5 * j) + 2) L := by
    rw [show (2 : Int32) = nI 2 from rfl, nI_add]
    exact vp_in_nI (by omega) (by omega)
  have in3 : vp_in (nI (5 * j) + 3) L := by
    rw [show (3 : Int32) = nI 3 from rfl, nI_add]
    exact vp_in_nI (by omega) (by omega)
  have in4 : vp_in (nI (5 * j) + 4) L := by
    rw [show (4 : Int32) = nI 4 from rfl, nI_add]
    exact vp_in_nI (by omega) (by omega)
  refine lv_aload_n hx hb dL_law_512 rfl (lv_at hl 1 rfl) ?_
  refine lv_aload_n hx hb dL_law_513 rfl (lv_at hl 0 rfl) ?_
  refine lv_iload hx hb dL_law_514 (lv_at hl 4 rfl) ?_
  refine lv_iconst (v := 1) hx hb dL_law_516 (by decide) ?_
  refine lv_iadd hx hb dL_law_517 ?_
  refine va_sld hx hb hX hbl hbA hS in1 dL_law_518 ?_
  refine lv_i2l hx hb dL_law_519 rfl ?_
  refine lv_bipush (v := 32) hx hb dL_law_520 (by decide) ?_
  refine lv_lshl hx hb dL_law_522 rfl ?_
  refine lv_aload_n hx hb dL_law_523 rfl (lv_at hl 0 rfl) ?_
  refine lv_iload hx hb dL_law_524 (lv_at hl 4 rfl) ?_
  refine lv_iconst (v := 2) hx hb dL_law_526 (by decide) ?_
  refine lv_iadd hx hb dL_law_527 ?_
  refine va_sld hx hb hX hbl hbA hS in2 dL_law_528 ?_
  refine lv_i2l hx hb dL_law_529 rfl ?_
  refine lv_ldc2 (v := 4294967295) hx hb hown (hts (.constantLong RL 106 4294967295) (by decide +kernel)) dL_law_530 ?_
  refine lv_land hx hb dL_law_533 ?_
  refine lv_lor hx hb dL_law_534 ?_
  refine lv_topl (fun w ew => ?_)
  refine lv_aload_n hx hb dL_law_535 rfl (lv_at hl 3 rfl) ?_
  obtain ⟨kk, bb, r, wb', wm', hI, ⟨rm, mc, ms, ⟨hrc, hrs, hmc, hms, hfr, hlo⟩, hBM⟩, ⟨rm2, ⟨h2c, h2s, h2f, h2l⟩, hMM⟩, hrb⟩ := step_type l hst D k w a0 m0 th wb wm hI0
  have hXPH := hXP.keep (H1 := H) (fun a h1 h2 => hS.2.1 a h1 h2)
  have hPc := vs_l hP
  have hDc := vd_l hD
  have hFc := vs_free hDc hS hA
  refine xc_iG (vx_runSW (As := [.ref a0, .long w, .ref qo]) (rest := []) ⟨hx, hb, hml, hown, hts⟩ (hBM qo f H.size) (vx_cwSW 3 hts gL_law_L_type rfl hrc hrs (by decide +kernel) ⟨by show rm.frames + 1 ≤ 2048; omega, by show 8 + (5 + 11) + rm.locals ≤ 84000; omega⟩) ⟨pz_blind, pz_start hPc hK hDc hXPH hXN hNW hFc⟩ rfl rfl hl.1 rfl (lv_room (Nat.le_of_ble_eq_true rfl)) dL_law_536 ⟨by show 200 + 8 * j + mc ≤ 601024; omega, by show 20000 + 429 * j + ms ≤ 7293034; omega⟩) hS hFc (fun u H1 locs hP1 hD1 hk1 hS => ?_)
  obtain ⟨hP, hD⟩ := vs_joinL hP hD hFc hk1 hP1 hD1
  clear hP1 hD1 hk1 hFc hPc hDc hXPH
  generalize H1 = H at hP hS ⊢
  refine lv_istore (lv' := [(5, .int kk), (0, .ref b), (1, .ref a0), (2, .ref m0), (3, .ref qo), (4, .int (nI (5 * j)))]) hx hb dL_law_539 hl (by decide) rfl (fun ls hl => ?_)
  refine lv_aload_n hx hb dL_law_541 rfl (lv_at hl 3 rfl) ?_
  refine lv_aload_n hx hb dL_law_542 rfl (lv_at hl 1 rfl) ?_
  refine lv_iload hx hb dL_law_543 (lv_at hl 5 rfl) ?_
  refine lv_iconst (v := 1) hx hb dL_law_545 (by decide) ?_
  refine lv_iadd hx hb dL_law_546 ?_
  refine va_sld hx hb hX hbl hbA hS in1 dL_law_547 ?_
  refine lv_i2l hx hb dL_law_548 rfl ?_
  refine lv_bipush (v := 32) hx hb dL_law_549 (by decide) ?_
  refine lv_lshl hx hb dL_law_551 rfl ?_
  refine lv_aload_n hx hb dL_law_552 rfl (lv_at hl 1 rfl) ?_
  refine lv_iload hx hb dL_law_553 (lv_at hl 5 rfl) ?_
  refine lv_iconst (v := 2) hx hb dL_law_555 (by decide) ?_
  refine lv_iadd hx hb dL_law_556 ?_
  refine va_sld hx hb hX hbl hbA hS in2 dL_law_557 ?_
  refine lv_i2l hx hb dL_law_558 rfl ?_
  refine lv_ldc2 (v := 4294967295) hx hb hown (hts (.constantLong RL 106 4294967295) (by decide +kernel)) dL_law_559 ?_
  refine lv_land hx hb dL_law_562 ?_
  refine lv_lor hx hb dL_law_563 ?_
  refine lv_topl (fun w2 ew2 => ?_)
  obtain rfl : w2 = w := ew2.trans ew.symm
  obtain ⟨gs, hm0⟩ := INV_m hI0
  have hPc := vs_r hP
  have hDc := vd_r hD
  have hFc := vs_free hDc hS hA
  refine xc_i (va_runV (As := [.long w2]) (rest := []) ⟨hx, hb, hml, hown, hts⟩ (hMM H.size) (cwV 1 hts gL_law_X7_type rfl h2c h2s (by decide +kernel) ⟨by show rm2.frames + 1 ≤ 2048; omega, by show 8 + (8 + 11) + rm2.locals ≤ 84000; omega⟩) ⟨pw_blind, va_recv hK hPc (ci := 7) (q0 := 0) rfl hm0, pw_start hPc hK hDc⟩ rfl rfl hl.1 rfl (lv_room (Nat.le_of_ble_eq_true rfl)) dL_law_564 ⟨by show 200 + 8 * j + mc + 0 ≤ 601024; omega, by show 20000 + 429 * j + ms + 0 ≤ 7293034; omega⟩) hS hFc (fun H1 locs hP1 hD1 hk1 hS => ?_)
  obtain ⟨hP, hD⟩ := vs_joinR hP hD hFc hk1 hP1 hD1
  clear hP1 hD1 hk1 hFc hPc hDc hm0
  generalize H1 = H at hP hS ⊢
  refine lv_istore (lv' := [(6, .int bb), (5, .int kk), (0, .ref b), (1, .ref a0), (2, .ref m0), (3, .ref qo), (4, .int (nI (5 * j)))]) hx hb dL_law_567 hl (by decide) rfl (fun ls hl => ?_)
  refine lv_aload_n hx hb dL_law_569 rfl (lv_at hl 4 rfl) ?_
  obtain ⟨gs2, hm2⟩ := INV_m (hI u)
  have hPc := vs_r hP
  have hDc := vd_r hD
  have hFc := vs_free hDc hS hA
  refine xc_i (va_runV (As := []) (rest := []) ⟨hx, hb, hml, hown, hts⟩ (INV_thrown l D (hI u) H.size) (cwV 0 hts gL_law_X7_thrown rfl rfl rfl (by decide +kernel) ⟨Nat.le_of_ble_eq_true rfl, Nat.le_of_ble_eq_true rfl⟩) ⟨pw_blind, va_recv hK hPc (ci := 7) (q0 := 0) rfl hm2, pw_start hPc hK hDc⟩ rfl rfl hl.1 rfl (lv_room (Nat.le_of_ble_eq_true rfl)) dL_law_570 ⟨by show 200 + 8 * j + mc + 0 + 0 ≤ 601024; omega, by show 20000 + 429 * j + ms + 0 + 0 ≤ 7293034; omega⟩) hS hFc (fun H1 locs hP1 hD1 hk1 hS => ?_)
  obtain ⟨hP, hD⟩ := vs_joinR hP hD hFc hk1 hP1 hD1
  clear hP1 hD1 hk1 hFc hPc hDc hm2
  generalize H1 = H at hP hS ⊢
  refine lv_iload hx hb dL_law_573 (lv_at hl 1 rfl) ?_
  refine lv_icmp_eq (tgt := 580) hx hb dL_law_575 (by decide) (fun _ => ?_) (fun q => absurd rfl q)
  have fin : W p l e room_1 s m #[Value.ref b] below meth c H locs (200 + 8 * j + mc + 0 + 0) (20000 + 429 * j + ms + 0 + 0) Q (F0 m 597 ls []) := by
    refine lv_goto (tgt := 1407) hx hb dL_law_597 (by decide) ?_
    refine W.widen (k := 200 + 8 * (j + 1)) (n := 20000 + 429 * (j + 1)) (by omega) (by omega) ?_
    exact hn kk (wb' u) wm' _ H locs ls (hI u) hP hD hS (lv_sub hl [2, 3, 4, 5, 6] rfl)
  refine lv_iload hx hb dL_law_580 (lv_at hl 1 rfl) ?_
  refine lv_if_ne (tgt := 597) hx hb dL_law_582 (by decide) (fun _ => fin) (fun q => ?_)
  refine lv_aload_n hx hb dL_law_585 rfl (lv_at hl 5 rfl) ?_
  refine lv_iconst (v := 0) hx hb dL_law_586 (by decide) ?_
  refine va_lald hx hb hK hP 0 1 rfl rfl (vp_in_nI (n := 0) (N := 1) (by decide) (by decide)) dL_law_587 ?_
  refine lv_topl (fun y ey => ?_)
  have ey2 : y = bb.toInt64 := by
    rw [ey, if_pos q]
    exact (out0 f r _ (by decide)).trans (hrb q)
  subst ey2
  clear ey
  refine lv_iload hx hb dL_law_588 (lv_at hl 0 rfl) ?_
  refine lv_i2l hx hb dL_law_590 rfl ?_
  refine W.lcmp hx hb dL_law_591 ?_
  exact lv_if_eq (tgt := 597) hx hb dL_law_592 (by decide) (fun _ => fin) (fun q => absurd (lg_self _) q)
set_option maxHeartbeats 4000000 in
set_option maxRecDepth 100000 in
theorem case_model {p : Program} {l : Launch} {e : Env} {s : State} {m : MethodId} {below : List Frame} {meth : Method} {c : Code} {D : va_G} {k : Nat → ClassId} {b L : Nat} {xs : Nat → Int32} {a0 m0 qo : Nat} (C : lwCtx p l e s m below meth c D k b L xs) {Q : State → Prop} {j : Nat} (hj : 5 * j + 5 ≤ L) (hn : lwAt p l e s m below meth c D k b a0 m0 qo Q 1407 j (j + 1)) : lwAt p l e s m below meth c D k b a0 m0 qo Q 600 j j := by
  obtain ⟨hx, hb, hml, hown, hts, hX, hbl, hK, hXP, hXN, hNW, hL, hst⟩ := C
  intro th wb wm f H locs ls hI0 hP hD hS hl
  have hA : ∀ q : Nat, s.heap.size ≤ q → lwA s q := fun _ h => h
  have hbA : ¬ lwA s b := Nat.not_le.mpr hbl
  have in1 : vp_in (nI (5 * j) + 1) L := by
    rw [nI_1]
    exact vp_in_nI (by omega) (by omega)
  have in2 : vp_in (nI (5 * j) + 2) L := by
    rw [show (2 : Int32) = nI 2 from rfl, nI_add]
    exact vp_in_nI (by omega) (by omega)
  have in3 : vp_in (nI (5 * j) + 3) L := by
    rw [show (3 : Int32) = nI 3 from rfl, nI_add]
    exact vp_in_nI (by omega) (by omega)
  have in4 : vp_in (nI (5 * j) + 4) L := by
    rw [show (4 : Int32) = nI 4 from rfl, nI_add]
    exact vp_in_nI (by omega) (by omega)
  refine lv_aload_n hx hb dL_law_600 rfl (lv_at hl 1 rfl) ?_
  refine lv_aload_n hx hb dL_law_601 rfl (lv_at hl 0 rfl) ?_
  refine lv_iload hx hb dL_law_602 (lv_at hl 4 rfl) ?_
  refine lv_iconst (v := 1) hx hb dL_law_604 (by decide) ?_
  refine lv_iadd hx hb dL_law_605 ?_
  refine va_sld hx hb hX hbl hbA hS in1 dL_law_606 ?_
  refine lv_aload_n hx hb dL_law_607 rfl (lv_at hl 3 rfl) ?_
  obtain ⟨kk, bb, r, wb', wm', hI, ⟨rm, mc, ms, ⟨hrc, hrs, hmc, hms, hfr, hlo⟩, hBM⟩, ⟨rm2, ⟨h2c, h2s, h2f, h2l⟩, hMM⟩, hrb⟩ := step_model l hst D k (xs (nI (5 * j) + 1).toNatClampNeg) a0 m0 th wb wm hI0
  have hXPH := hXP.keep (H1 := H) (fun a h1 h2 => hS.2.1 a h1 h2)
  have hPc := vs_l hP
  have hDc := vd_l hD
  have hFc := vs_free hDc hS hA
  refine xc_iG (vx_runSW (As := [.ref a0, .int (xs (nI (5 * j) + 1).toNatClampNeg), .ref qo]) (rest := []) ⟨hx, hb, hml, hown, hts⟩ (hBM qo f H.size) (vx_cwSW 3 hts gL_law_L_model rfl hrc hrs (by decide +kernel) ⟨by show rm.frames + 1 ≤ 2048; omega, by show 8 + (4 + 11) + rm.locals ≤ 84000; omega⟩) ⟨pz_blind, pz_start hPc hK hDc hXPH hXN hNW hFc⟩ rfl rfl hl.1 rfl (lv_room (Nat.le_of_ble_eq_true rfl)) dL_law_608 ⟨by show 200 + 8 * j + mc ≤ 601024; omega, by show 20000 + 429 * j + ms ≤ 7293034; omega⟩) hS hFc (fun u H1 locs hP1 hD1 hk1 hS => ?_)
  obtain ⟨hP, hD⟩ := vs_joinL hP hD hFc hk1 hP1 hD1
  clear hP1 hD1 hk1 hFc hPc hDc hXPH
  generalize H1 = H at hP hS ⊢
  refine lv_istore (lv' := [(5, .int kk), (0, .ref b), (1, .ref a0), (2, .ref m0), (3, .ref qo), (4, .int (nI (5 * j)))]) hx hb dL_law_611 hl (by decide) rfl (fun ls hl => ?_)
  refine lv_aload_n hx hb dL_law_613 rfl (lv_at hl 3 rfl) ?_
  refine lv_aload_n hx hb dL_law_614 rfl (lv_at hl 1 rfl) ?_
  refine lv_iload hx hb dL_law_615 (lv_at hl 5 rfl) ?_
  refine lv_iconst (v := 1) hx hb dL_law_617 (by decide) ?_
  refine lv_iadd hx hb dL_law_618 ?_
  refine va_sld hx hb hX hbl hbA hS in1 dL_law_619 ?_
  obtain ⟨gs, hm0⟩ := INV_m hI0
  have hPc := vs_r hP
  have hDc := vd_r hD
  have hFc := vs_free hDc hS hA
  refine xc_i (va_runV (As := [.int (xs (nI (5 * j) + 1).toNatClampNeg)]) (rest := []) ⟨hx, hb, hml, hown, hts⟩ (hMM H.size) (cwV 1 hts gL_law_X7_model rfl h2c h2s (by decide +kernel) ⟨by show rm2.frames + 1 ≤ 2048; omega, by show 8 + (3 + 11) + rm2.locals ≤ 84000; omega⟩) ⟨pw_blind, va_recv hK hPc (ci := 7) (q0 := 0) rfl hm0, pw_start hPc hK hDc⟩ rfl rfl hl.1 rfl (lv_room (Nat.le_of_ble_eq_true rfl)) dL_law_620 ⟨by show 200 + 8 * j + mc + 0 ≤ 601024; omega, by show 20000 + 429 * j + ms + 0 ≤ 7293034; omega⟩) hS hFc (fun H1 locs hP1 hD1 hk1 hS => ?_)
  obtain ⟨hP, hD⟩ := vs_joinR hP hD hFc hk1 hP1 hD1
  clear hP1 hD1 hk1 hFc hPc hDc hm0
  generalize H1 = H at hP hS ⊢
  refine lv_istore (lv' := [(6, .int bb), (5, .int kk), (0, .ref b), (1, .ref a0), (2, .ref m0), (3, .ref qo), (4, .int (nI (5 * j)))]) hx hb dL_law_623 hl (by decide) rfl (fun ls hl => ?_)
  refine lv_aload_n hx hb dL_law_625 rfl (lv_at hl 4 rfl) ?_
  obtain ⟨gs2, hm2⟩ := INV_m (hI u)
  have hPc := vs_r hP
  have hDc := vd_r hD
  have hFc := vs_free hDc hS hA
  refine xc_i (va_runV (As := []) (rest := []) ⟨hx, hb, hml, hown, hts⟩ (INV_thrown l D (hI u) H.size) (cwV 0 hts gL_law_X7_thrown rfl rfl rfl (by decide +kernel) ⟨Nat.le_of_ble_eq_true rfl, Nat.le_of_ble_eq_true rfl⟩) ⟨pw_blind, va_recv hK hPc (ci := 7) (q0 := 0) rfl hm2, pw_start hPc hK hDc⟩ rfl rfl hl.1 rfl (lv_room (Nat.le_of_ble_eq_true rfl)) dL_law_626 ⟨by show 200 + 8 * j + mc + 0 + 0 ≤ 601024; omega, by show 20000 + 429 * j + ms + 0 + 0 ≤ 7293034; omega⟩) hS hFc (fun H1 locs hP1 hD1 hk1 hS => ?_)
  obtain ⟨hP, hD⟩ := vs_joinR hP hD hFc hk1 hP1 hD1
  clear hP1 hD1 hk1 hFc hPc hDc hm2
  generalize H1 = H at hP hS ⊢
  refine lv_iload hx hb dL_law_629 (lv_at hl 1 rfl) ?_
  refine lv_icmp_eq (tgt := 636) hx hb dL_law_631 (by decide) (fun _ => ?_) (fun q => absurd rfl q)
  have fin : W p l e room_1 s m #[Value.ref b] below meth c H locs (200 + 8 * j + mc + 0 + 0) (20000 + 429 * j + ms + 0 + 0) Q (F0 m 653 ls []) := by
    refine lv_goto (tgt := 1407) hx hb dL_law_653 (by decide) ?_
    refine W.widen (k := 200 + 8 * (j + 1)) (n := 20000 + 429 * (j + 1)) (by omega) (by omega) ?_
    exact hn kk (wb' u) wm' _ H locs ls (hI u) hP hD hS (lv_sub hl [2, 3, 4, 5, 6] rfl)
  refine lv_iload hx hb dL_law_636 (lv_at hl 1 rfl) ?_
  refine lv_if_ne (tgt := 653) hx hb dL_law_638 (by decide) (fun _ => fin) (fun q => ?_)
  refine lv_aload_n hx hb dL_law_641 rfl (lv_at hl 5 rfl) ?_
  refine lv_iconst (v := 0) hx hb dL_law_642 (by decide) ?_
  refine va_lald hx hb hK hP 0 1 rfl rfl (vp_in_nI (n := 0) (N := 1) (by decide) (by decide)) dL_law_643 ?_
  refine lv_topl (fun y ey => ?_)
  have ey2 : y = bb.toInt64 := by
    rw [ey, if_pos q]
    exact (out0 f r _ (by decide)).trans (hrb q)
  subst ey2
  clear ey
  refine lv_iload hx hb dL_law_644 (lv_at hl 0 rfl) ?_
  refine lv_i2l hx hb dL_law_646 rfl ?_
  refine W.lcmp hx hb dL_law_647 ?_
  exact lv_if_eq (tgt := 653) hx hb dL_law_648 (by decide) (fun _ => fin) (fun q => absurd (lg_self _) q)
set_option maxHeartbeats 4000000 in
set_option maxRecDepth 100000 in
theorem case_disagrees {p : Program} {l : Launch} {e : Env} {s : State} {m : MethodId} {below : List Frame} {meth : Method} {c : Code} {D : va_G} {k : Nat → ClassId} {b L : Nat} {xs : Nat → Int32} {a0 m0 qo : Nat} (C : lwCtx p l e s m below meth c D k b L xs) {Q : State → Prop} {j : Nat} (hj : 5 * j + 5 ≤ L) (hn : lwAt p l e s m below meth c D k b a0 m0 qo Q 1407 j (j + 1)) : lwAt p l e s m below meth c D k b a0 m0 qo Q 656 j j := by
  obtain ⟨hx, hb, hml, hown, hts, hX, hbl, hK, hXP, hXN, hNW, hL, hst⟩ := C
  intro th wb wm f H locs ls hI0 hP hD hS hl
  have hA : ∀ q : Nat, s.heap.size ≤ q → lwA s q := fun _ h => h
  have hbA : ¬ lwA s b := Nat.not_le.mpr hbl
  have in1 : vp_in (nI (5 * j) + 1) L := by
    rw [nI_1]
    exact vp_in_nI (by omega) (by omega)
  have in2 : vp_in (nI (5 * j) + 2) L := by
    rw [show (2 : Int32) = nI 2 from rfl, nI_add]
    exact vp_in_nI (by omega) (by omega)
  have in3 : vp_in (nI (5 * j) + 3) L := by
    rw [show (3 : Int32) = nI 3 from rfl, nI_add]
    exact vp_in_nI (by omega) (by omega)
  have in4 : vp_in (nI (5 * j) + 4) L := by
    rw [show (4 : Int32) = nI 4 from rfl, nI_add]
    exact vp_in_nI (by omega) (by omega)
  refine lv_aload_n hx hb dL_law_656 rfl (lv_at hl 1 rfl) ?_
  refine lv_aload_n hx hb dL_law_657 rfl (lv_at hl 0 rfl) ?_
  refine lv_iload hx hb dL_law_658 (lv_at hl 4 rfl) ?_
  refine lv_iconst (v := 1) hx hb dL_law_660 (by decide) ?_
  refine lv_iadd hx hb dL_law_661 ?_
  refine va_sld hx hb hX hbl hbA hS in1 dL_law_662 ?_
  refine lv_aload_n hx hb dL_law_663 rfl (lv_at hl 3 rfl) ?_
  obtain ⟨kk, bb, r, wb', wm', hI, ⟨rm, mc, ms, ⟨hrc, hrs, hmc, hms, hfr, hlo⟩, hBM⟩, ⟨rm2, ⟨h2c, h2s, h2f, h2l⟩, hMM⟩, hrb⟩ := step_disagrees l hst D k (xs (nI (5 * j) + 1).toNatClampNeg) a0 m0 th wb wm hI0
  have hXPH := hXP.keep (H1 := H) (fun a h1 h2 => hS.2.1 a h1 h2)
  have hPc := vs_l hP
  have hDc := vd_l hD
  have hFc := vs_free hDc hS hA
  refine xc_iG (vx_runSW (As := [.ref a0, .int (xs (nI (5 * j) + 1).toNatClampNeg), .ref qo]) (rest := []) ⟨hx, hb, hml, hown, hts⟩ (hBM qo f H.size) (vx_cwSW 3 hts gL_law_L_disagrees rfl hrc hrs (by decide +kernel) ⟨by show rm.frames + 1 ≤ 2048; omega, by show 8 + (4 + 11) + rm.locals ≤ 84000; omega⟩) ⟨pz_blind, pz_start hPc hK hDc hXPH hXN hNW hFc⟩ rfl rfl hl.1 rfl (lv_room (Nat.le_of_ble_eq_true rfl)) dL_law_664 ⟨by show 200 + 8 * j + mc ≤ 601024; omega, by show 20000 + 429 * j + ms ≤ 7293034; omega⟩) hS hFc (fun u H1 locs hP1 hD1 hk1 hS => ?_)
  obtain ⟨hP, hD⟩ := vs_joinL hP hD hFc hk1 hP1 hD1
  clear hP1 hD1 hk1 hFc hPc hDc hXPH
  generalize H1 = H at hP hS ⊢
  refine lv_istore (lv' := [(5, .int kk), (0, .ref b), (1, .ref a0), (2, .ref m0), (3, .ref qo), (4, .int (nI (5 * j)))]) hx hb dL_law_667 hl (by decide) rfl (fun ls hl => ?_)
  refine lv_aload_n hx hb dL_law_669 rfl (lv_at hl 3 rfl) ?_
  refine lv_aload_n hx hb dL_law_670 rfl (lv_at hl 1 rfl) ?_
  refine lv_iload hx hb dL_law_671 (lv_at hl 5 rfl) ?_
  refine lv_iconst (v := 1) hx hb dL_law_673 (by decide) ?_
  refine lv_iadd hx hb dL_law_674 ?_
  refine va_sld hx hb hX hbl hbA hS in1 dL_law_675 ?_
  obtain ⟨gs, hm0⟩ := INV_m hI0
  have hPc := vs_r hP
  have hDc := vd_r hD
  have hFc := vs_free hDc hS hA
  refine xc_i (va_runV (As := [.int (xs (nI (5 * j) + 1).toNatClampNeg)]) (rest := []) ⟨hx, hb, hml, hown, hts⟩ (hMM H.size) (cwV 1 hts gL_law_X7_disagrees rfl h2c h2s (by decide +kernel) ⟨by show rm2.frames + 1 ≤ 2048; omega, by show 8 + (2 + 11) + rm2.locals ≤ 84000; omega⟩) ⟨pw_blind, va_recv hK hPc (ci := 7) (q0 := 0) rfl hm0, pw_start hPc hK hDc⟩ rfl rfl hl.1 rfl (lv_room (Nat.le_of_ble_eq_true rfl)) dL_law_676 ⟨by show 200 + 8 * j + mc + 0 ≤ 601024; omega, by show 20000 + 429 * j + ms + 0 ≤ 7293034; omega⟩) hS hFc (fun H1 locs hP1 hD1 hk1 hS => ?_)
  obtain ⟨hP, hD⟩ := vs_joinR hP hD hFc hk1 hP1 hD1
  clear hP1 hD1 hk1 hFc hPc hDc hm0
  generalize H1 = H at hP hS ⊢
  refine lv_istore (lv' := [(6, .int bb), (5, .int kk), (0, .ref b), (1, .ref a0), (2, .ref m0), (3, .ref qo), (4, .int (nI (5 * j)))]) hx hb dL_law_679 hl (by decide) rfl (fun ls hl => ?_)
  refine lv_aload_n hx hb dL_law_681 rfl (lv_at hl 4 rfl) ?_
  obtain ⟨gs2, hm2⟩ := INV_m (hI u)
  have hPc := vs_r hP
  have hDc := vd_r hD
  have hFc := vs_free hDc hS hA
  refine xc_i (va_runV (As := []) (rest := []) ⟨hx, hb, hml, hown, hts⟩ (INV_thrown l D (hI u) H.size) (cwV 0 hts gL_law_X7_thrown rfl rfl rfl (by decide +kernel) ⟨Nat.le_of_ble_eq_true rfl, Nat.le_of_ble_eq_true rfl⟩) ⟨pw_blind, va_recv hK hPc (ci := 7) (q0 := 0) rfl hm2, pw_start hPc hK hDc⟩ rfl rfl hl.1 rfl (lv_room (Nat.le_of_ble_eq_true rfl)) dL_law_682 ⟨by show 200 + 8 * j + mc + 0 + 0 ≤ 601024; omega, by show 20000 + 429 * j + ms + 0 + 0 ≤ 7293034; omega⟩) hS hFc (fun H1 locs hP1 hD1 hk1 hS => ?_)
  obtain ⟨hP, hD⟩ := vs_joinR hP hD hFc hk1 hP1 hD1
  clear hP1 hD1 hk1 hFc hPc hDc hm2
  generalize H1 = H at hP hS ⊢
  refine lv_iload hx hb dL_law_685 (lv_at hl 1 rfl) ?_
  refine lv_icmp_eq (tgt := 692) hx hb dL_law_687 (by decide) (fun _ => ?_) (fun q => absurd rfl q)
  have fin : W p l e room_1 s m #[Value.ref b] below meth c H locs (200 + 8 * j + mc + 0 + 0) (20000 + 429 * j + ms + 0 + 0) Q (F0 m 709 ls []) := by
    refine lv_goto (tgt := 1407) hx hb dL_law_709 (by decide) ?_
    refine W.widen (k := 200 + 8 * (j + 1)) (n := 20000 + 429 * (j + 1)) (by omega) (by omega) ?_
    exact hn kk (wb' u) wm' _ H locs ls (hI u) hP hD hS (lv_sub hl [2, 3, 4, 5, 6] rfl)
  refine lv_iload hx hb dL_law_692 (lv_at hl 1 rfl) ?_
  refine lv_if_ne (tgt := 709) hx hb dL_law_694 (by decide) (fun _ => fin) (fun q => ?_)
  refine lv_aload_n hx hb dL_law_697 rfl (lv_at hl 5 rfl) ?_
  refine lv_iconst (v := 0) hx hb dL_law_698 (by decide) ?_
  refine va_lald hx hb hK hP 0 1 rfl rfl (vp_in_nI (n := 0) (N := 1) (by decide) (by decide)) dL_law_699 ?_
  refine lv_topl (fun y ey => ?_)
  have ey2 : y = bb.toInt64 := by
    rw [ey, if_pos q]
    exact (out0 f r _ (by decide)).trans (hrb q)
  subst ey2
  clear ey
  refine lv_iload hx hb dL_law_700 (lv_at hl 0 rfl) ?_
  refine lv_i2l hx hb dL_law_702 rfl ?_
  refine W.lcmp hx hb dL_law_703 ?_
  exact lv_if_eq (tgt := 709) hx hb dL_law_704 (by decide) (fun _ => fin) (fun q => absurd (lg_self _) q)
set_option maxHeartbeats 4000000 in
set_option maxRecDepth 100000 in
theorem case_unitOf {p : Program} {l : Launch} {e : Env} {s : State} {m : MethodId} {below : List Frame} {meth : Method} {c : Code} {D : va_G} {k : Nat → ClassId} {b L : Nat} {xs : Nat → Int32} {a0 m0 qo : Nat} (C : lwCtx p l e s m below meth c D k b L xs) {Q : State → Prop} {j : Nat} (hj : 5 * j + 5 ≤ L) (hn : lwAt p l e s m below meth c D k b a0 m0 qo Q 1407 j (j + 1)) : lwAt p l e s m below meth c D k b a0 m0 qo Q 712 j j := by
  obtain ⟨hx, hb, hml, hown, hts, hX, hbl, hK, hXP, hXN, hNW, hL, hst⟩ := C
  intro th wb wm f H locs ls hI0 hP hD hS hl
  have hA : ∀ q : Nat, s.heap.size ≤ q → lwA s q := fun _ h => h
  have hbA : ¬ lwA s b := Nat.not_le.mpr hbl
  have in1 : vp_in (nI (5 * j) + 1) L := by
    rw [nI_1]
    exact vp_in_nI (by omega) (by omega)
  have in2 : vp_in (nI (5 * j) + 2) L := by
    rw [show (2 : Int32) = nI 2 from rfl, nI_add]
    exact vp_in_nI (by omega) (by omega)
  have in3 : vp_in (nI (5 * j) + 3) L := by
    rw [show (3 : Int32) = nI 3 from rfl, nI_add]
    exact vp_in_nI (by omega) (by omega)
  have in4 : vp_in (nI (5 * j) + 4) L := by
    rw [show (4 : Int32) = nI 4 from rfl, nI_add]
    exact vp_in_nI (by omega) (by omega)
  by_cases z : (xs (nI (5 * j) + 2).toNatClampNeg) = 0
  · refine lv_aload_n hx hb dL_law_712 rfl (lv_at hl 1 rfl) ?_
    refine lv_aload_n hx hb dL_law_713 rfl (lv_at hl 0 rfl) ?_
    refine lv_iload hx hb dL_law_714 (lv_at hl 4 rfl) ?_
    refine lv_iconst (v := 1) hx hb dL_law_716 (by decide) ?_
    refine lv_iadd hx hb dL_law_717 ?_
    refine va_sld hx hb hX hbl hbA hS in1 dL_law_718 ?_
    refine lv_aload_n hx hb dL_law_719 rfl (lv_at hl 0 rfl) ?_
    refine lv_iload hx hb dL_law_720 (lv_at hl 4 rfl) ?_
    refine lv_iconst (v := 2) hx hb dL_law_722 (by decide) ?_
    refine lv_iadd hx hb dL_law_723 ?_
    refine va_sld hx hb hX hbl hbA hS in2 dL_law_724 ?_
    refine lv_if_eq (tgt := 732) hx hb dL_law_725 (by decide) (fun _ => ?_) (fun q => absurd z q)
    refine lv_iconst (v := 0) hx hb dL_law_732 (by decide) ?_
    refine lv_aload_n hx hb dL_law_733 rfl (lv_at hl 3 rfl) ?_
    obtain ⟨kk, bb, r, wb', wm', hI, ⟨rm, mc, ms, ⟨hrc, hrs, hmc, hms, hfr, hlo⟩, hBM⟩, ⟨rm2, ⟨h2c, h2s, h2f, h2l⟩, hMM⟩, hrb⟩ := step_unitOf l hst D k (xs (nI (5 * j) + 1).toNatClampNeg) 0 a0 m0 th wb wm hI0
    have hXPH := hXP.keep (H1 := H) (fun a h1 h2 => hS.2.1 a h1 h2)
    have hPc := vs_l hP
    have hDc := vd_l hD
    have hFc := vs_free hDc hS hA
    refine xc_iG (vx_runSW (As := [.ref a0, .int (xs (nI (5 * j) + 1).toNatClampNeg), .int 0, .ref qo]) (rest := []) ⟨hx, hb, hml, hown, hts⟩ (hBM qo f H.size) (vx_cwSW 4 hts gL_law_L_unitOf rfl hrc hrs (by decide +kernel) ⟨by show rm.frames + 1 ≤ 2048; omega, by show 8 + (5 + 11) + rm.locals ≤ 84000; omega⟩) ⟨pz_blind, pz_start hPc hK hDc hXPH hXN hNW hFc⟩ rfl rfl hl.1 rfl (lv_room (Nat.le_of_ble_eq_true rfl)) dL_law_734 ⟨by show 200 + 8 * j + mc ≤ 601024; omega, by show 20000 + 429 * j + ms ≤ 7293034; omega⟩) hS hFc (fun u H1 locs hP1 hD1 hk1 hS => ?_)
    obtain ⟨hP, hD⟩ := vs_joinL hP hD hFc hk1 hP1 hD1
    clear hP1 hD1 hk1 hFc hPc hDc hXPH
    generalize H1 = H at hP hS ⊢
    refine lv_istore (lv' := [(5, .int kk), (0, .ref b), (1, .ref a0), (2, .ref m0), (3, .ref qo), (4, .int (nI (5 * j)))]) hx hb dL_law_737 hl (by decide) rfl (fun ls hl => ?_)
    refine lv_aload_n hx hb dL_law_739 rfl (lv_at hl 3 rfl) ?_
    refine lv_aload_n hx hb dL_law_740 rfl (lv_at hl 1 rfl) ?_
    refine lv_iload hx hb dL_law_741 (lv_at hl 5 rfl) ?_
    refine lv_iconst (v := 1) hx hb dL_law_743 (by decide) ?_
    refine lv_iadd hx hb dL_law_744 ?_
    refine va_sld hx hb hX hbl hbA hS in1 dL_law_745 ?_
    refine lv_aload_n hx hb dL_law_746 rfl (lv_at hl 1 rfl) ?_
    refine lv_iload hx hb dL_law_747 (lv_at hl 5 rfl) ?_
    refine lv_iconst (v := 2) hx hb dL_law_749 (by decide) ?_
    refine lv_iadd hx hb dL_law_750 ?_
    refine va_sld hx hb hX hbl hbA hS in2 dL_law_751 ?_
    refine lv_if_eq (tgt := 759) hx hb dL_law_752 (by decide) (fun _ => ?_) (fun q => absurd z q)
    refine lv_iconst (v := 0) hx hb dL_law_759 (by decide) ?_
    obtain ⟨gs, hm0⟩ := INV_m hI0
    have hPc := vs_r hP
    have hDc := vd_r hD
    have hFc := vs_free hDc hS hA
    refine xc_i (va_runV (As := [.int (xs (nI (5 * j) + 1).toNatClampNeg), .int 0]) (rest := []) ⟨hx, hb, hml, hown, hts⟩ (hMM H.size) (cwV 2 hts gL_law_X7_unitOf rfl h2c h2s (by decide +kernel) ⟨by show rm2.frames + 1 ≤ 2048; omega, by show 8 + (3 + 11) + rm2.locals ≤ 84000; omega⟩) ⟨pw_blind, va_recv hK hPc (ci := 7) (q0 := 0) rfl hm0, pw_start hPc hK hDc⟩ rfl rfl hl.1 rfl (lv_room (Nat.le_of_ble_eq_true rfl)) dL_law_760 ⟨by show 200 + 8 * j + mc + 0 ≤ 601024; omega, by show 20000 + 429 * j + ms + 0 ≤ 7293034; omega⟩) hS hFc (fun H1 locs hP1 hD1 hk1 hS => ?_)
    obtain ⟨hP, hD⟩ := vs_joinR hP hD hFc hk1 hP1 hD1
    clear hP1 hD1 hk1 hFc hPc hDc hm0
    generalize H1 = H at hP hS ⊢
    refine lv_istore (lv' := [(6, .int bb), (5, .int kk), (0, .ref b), (1, .ref a0), (2, .ref m0), (3, .ref qo), (4, .int (nI (5 * j)))]) hx hb dL_law_763 hl (by decide) rfl (fun ls hl => ?_)
    refine lv_aload_n hx hb dL_law_765 rfl (lv_at hl 4 rfl) ?_
    obtain ⟨gs2, hm2⟩ := INV_m (hI u)
    have hPc := vs_r hP
    have hDc := vd_r hD
    have hFc := vs_free hDc hS hA
    refine xc_i (va_runV (As := []) (rest := []) ⟨hx, hb, hml, hown, hts⟩ (INV_thrown l D (hI u) H.size) (cwV 0 hts gL_law_X7_thrown rfl rfl rfl (by decide +kernel) ⟨Nat.le_of_ble_eq_true rfl, Nat.le_of_ble_eq_true rfl⟩) ⟨pw_blind, va_recv hK hPc (ci := 7) (q0 := 0) rfl hm2, pw_start hPc hK hDc⟩ rfl rfl hl.1 rfl (lv_room (Nat.le_of_ble_eq_true rfl)) dL_law_766 ⟨by show 200 + 8 * j + mc + 0 + 0 ≤ 601024; omega, by show 20000 + 429 * j + ms + 0 + 0 ≤ 7293034; omega⟩) hS hFc (fun H1 locs hP1 hD1 hk1 hS => ?_)
    obtain ⟨hP, hD⟩ := vs_joinR hP hD hFc hk1 hP1 hD1
    clear hP1 hD1 hk1 hFc hPc hDc hm2
    generalize H1 = H at hP hS ⊢
    refine lv_iload hx hb dL_law_769 (lv_at hl 1 rfl) ?_
    refine lv_icmp_eq (tgt := 776) hx hb dL_law_771 (by decide) (fun _ => ?_) (fun q => absurd rfl q)
    have fin : W p l e room_1 s m #[Value.ref b] below meth c H locs (200 + 8 * j + mc + 0 + 0) (20000 + 429 * j + ms + 0 + 0) Q (F0 m 793 ls []) := by
      refine lv_goto (tgt := 1407) hx hb dL_law_793 (by decide) ?_
      refine W.widen (k := 200 + 8 * (j + 1)) (n := 20000 + 429 * (j + 1)) (by omega) (by omega) ?_
      exact hn kk (wb' u) wm' _ H locs ls (hI u) hP hD hS (lv_sub hl [2, 3, 4, 5, 6] rfl)
    refine lv_iload hx hb dL_law_776 (lv_at hl 1 rfl) ?_
    refine lv_if_ne (tgt := 793) hx hb dL_law_778 (by decide) (fun _ => fin) (fun q => ?_)
    refine lv_aload_n hx hb dL_law_781 rfl (lv_at hl 5 rfl) ?_
    refine lv_iconst (v := 0) hx hb dL_law_782 (by decide) ?_
    refine va_lald hx hb hK hP 0 1 rfl rfl (vp_in_nI (n := 0) (N := 1) (by decide) (by decide)) dL_law_783 ?_
    refine lv_topl (fun y ey => ?_)
    have ey2 : y = bb.toInt64 := by
      rw [ey, if_pos q]
      exact (out0 f r _ (by decide)).trans (hrb q)
    subst ey2
    clear ey
    refine lv_iload hx hb dL_law_784 (lv_at hl 0 rfl) ?_
    refine lv_i2l hx hb dL_law_786 rfl ?_
    refine W.lcmp hx hb dL_law_787 ?_
    exact lv_if_eq (tgt := 793) hx hb dL_law_788 (by decide) (fun _ => fin) (fun q => absurd (lg_self _) q)
  · refine lv_aload_n hx hb dL_law_712 rfl (lv_at hl 1 rfl) ?_
    refine lv_aload_n hx hb dL_law_713 rfl (lv_at hl 0 rfl) ?_
    refine lv_iload hx hb dL_law_714 (lv_at hl 4 rfl) ?_
    refine lv_iconst (v := 1) hx hb dL_law_716 (by decide) ?_
    refine lv_iadd hx hb dL_law_717 ?_
    refine va_sld hx hb hX hbl hbA hS in1 dL_law_718 ?_
    refine lv_aload_n hx hb dL_law_719 rfl (lv_at hl 0 rfl) ?_
    refine lv_iload hx hb dL_law_720 (lv_at hl 4 rfl) ?_
    refine lv_iconst (v := 2) hx hb dL_law_722 (by decide) ?_
    refine lv_iadd hx hb dL_law_723 ?_
    refine va_sld hx hb hX hbl hbA hS in2 dL_law_724 ?_
    refine lv_if_eq (tgt := 732) hx hb dL_law_725 (by decide) (fun q => absurd q z) (fun _ => ?_)
    refine lv_iconst (v := 1) hx hb dL_law_728 (by decide) ?_
    refine lv_goto (tgt := 733) hx hb dL_law_729 (by decide) ?_
    refine lv_aload_n hx hb dL_law_733 rfl (lv_at hl 3 rfl) ?_
    obtain ⟨kk, bb, r, wb', wm', hI, ⟨rm, mc, ms, ⟨hrc, hrs, hmc, hms, hfr, hlo⟩, hBM⟩, ⟨rm2, ⟨h2c, h2s, h2f, h2l⟩, hMM⟩, hrb⟩ := step_unitOf l hst D k (xs (nI (5 * j) + 1).toNatClampNeg) 1 a0 m0 th wb wm hI0
    have hXPH := hXP.keep (H1 := H) (fun a h1 h2 => hS.2.1 a h1 h2)
    have hPc := vs_l hP
    have hDc := vd_l hD
    have hFc := vs_free hDc hS hA
    refine xc_iG (vx_runSW (As := [.ref a0, .int (xs (nI (5 * j) + 1).toNatClampNeg), .int 1, .ref qo]) (rest := []) ⟨hx, hb, hml, hown, hts⟩ (hBM qo f H.size) (vx_cwSW 4 hts gL_law_L_unitOf rfl hrc hrs (by decide +kernel) ⟨by show rm.frames + 1 ≤ 2048; omega, by show 8 + (5 + 11) + rm.locals ≤ 84000; omega⟩) ⟨pz_blind, pz_start hPc hK hDc hXPH hXN hNW hFc⟩ rfl rfl hl.1 rfl (lv_room (Nat.le_of_ble_eq_true rfl)) dL_law_734 ⟨by show 200 + 8 * j + mc ≤ 601024; omega, by show 20000 + 429 * j + ms ≤ 7293034; omega⟩) hS hFc (fun u H1 locs hP1 hD1 hk1 hS => ?_)
    obtain ⟨hP, hD⟩ := vs_joinL hP hD hFc hk1 hP1 hD1
    clear hP1 hD1 hk1 hFc hPc hDc hXPH
    generalize H1 = H at hP hS ⊢
    refine lv_istore (lv' := [(5, .int kk), (0, .ref b), (1, .ref a0), (2, .ref m0), (3, .ref qo), (4, .int (nI (5 * j)))]) hx hb dL_law_737 hl (by decide) rfl (fun ls hl => ?_)
    refine lv_aload_n hx hb dL_law_739 rfl (lv_at hl 3 rfl) ?_
    refine lv_aload_n hx hb dL_law_740 rfl (lv_at hl 1 rfl) ?_
    refine lv_iload hx hb dL_law_741 (lv_at hl 5 rfl) ?_
    refine lv_iconst (v := 1) hx hb dL_law_743 (by decide) ?_
    refine lv_iadd hx hb dL_law_744 ?_
    refine va_sld hx hb hX hbl hbA hS in1 dL_law_745 ?_
    refine lv_aload_n hx hb dL_law_746 rfl (lv_at hl 1 rfl) ?_
    refine lv_iload hx hb dL_law_747 (lv_at hl 5 rfl) ?_
    refine lv_iconst (v := 2) hx hb dL_law_749 (by decide) ?_
    refine lv_iadd hx hb dL_law_750 ?_
    refine va_sld hx hb hX hbl hbA hS in2 dL_law_751 ?_
    refine lv_if_eq (tgt := 759) hx hb dL_law_752 (by decide) (fun q => absurd q z) (fun _ => ?_)
    refine lv_iconst (v := 1) hx hb dL_law_755 (by decide) ?_
    refine lv_goto (tgt := 760) hx hb dL_law_756 (by decide) ?_
    obtain ⟨gs, hm0⟩ := INV_m hI0
    have hPc := vs_r hP
    have hDc := vd_r hD
    have hFc := vs_free hDc hS hA
    refine xc_i (va_runV (As := [.int (xs (nI (5 * j) + 1).toNatClampNeg), .int 1]) (rest := []) ⟨hx, hb, hml, hown, hts⟩ (hMM H.size) (cwV 2 hts gL_law_X7_unitOf rfl h2c h2s (by decide +kernel) ⟨by show rm2.frames + 1 ≤ 2048; omega, by show 8 + (3 + 11) + rm2.locals ≤ 84000; omega⟩) ⟨pw_blind, va_recv hK hPc (ci := 7) (q0 := 0) rfl hm0, pw_start hPc hK hDc⟩ rfl rfl hl.1 rfl (lv_room (Nat.le_of_ble_eq_true rfl)) dL_law_760 ⟨by show 200 + 8 * j + mc + 0 ≤ 601024; omega, by show 20000 + 429 * j + ms + 0 ≤ 7293034; omega⟩) hS hFc (fun H1 locs hP1 hD1 hk1 hS => ?_)
    obtain ⟨hP, hD⟩ := vs_joinR hP hD hFc hk1 hP1 hD1
    clear hP1 hD1 hk1 hFc hPc hDc hm0
    generalize H1 = H at hP hS ⊢
    refine lv_istore (lv' := [(6, .int bb), (5, .int kk), (0, .ref b), (1, .ref a0), (2, .ref m0), (3, .ref qo), (4, .int (nI (5 * j)))]) hx hb dL_law_763 hl (by decide) rfl (fun ls hl => ?_)
    refine lv_aload_n hx hb dL_law_765 rfl (lv_at hl 4 rfl) ?_
    obtain ⟨gs2, hm2⟩ := INV_m (hI u)
    have hPc := vs_r hP
    have hDc := vd_r hD
    have hFc := vs_free hDc hS hA
    refine xc_i (va_runV (As := []) (rest := []) ⟨hx, hb, hml, hown, hts⟩ (INV_thrown l D (hI u) H.size) (cwV 0 hts gL_law_X7_thrown rfl rfl rfl (by decide +kernel) ⟨Nat.le_of_ble_eq_true rfl, Nat.le_of_ble_eq_true rfl⟩) ⟨pw_blind, va_recv hK hPc (ci := 7) (q0 := 0) rfl hm2, pw_start hPc hK hDc⟩ rfl rfl hl.1 rfl (lv_room (Nat.le_of_ble_eq_true rfl)) dL_law_766 ⟨by show 200 + 8 * j + mc + 0 + 0 ≤ 601024; omega, by show 20000 + 429 * j + ms + 0 + 0 ≤ 7293034; omega⟩) hS hFc (fun H1 locs hP1 hD1 hk1 hS => ?_)
    obtain ⟨hP, hD⟩ := vs_joinR hP hD hFc hk1 hP1 hD1
    clear hP1 hD1 hk1 hFc hPc hDc hm2
    generalize H1 = H at hP hS ⊢
    refine lv_iload hx hb dL_law_769 (lv_at hl 1 rfl) ?_
    refine lv_icmp_eq (tgt := 776) hx hb dL_law_771 (by decide) (fun _ => ?_) (fun q => absurd rfl q)
    have fin : W p l e room_1 s m #[Value.ref b] below meth c H locs (200 + 8 * j + mc + 0 + 0) (20000 + 429 * j + ms + 0 + 0) Q (F0 m 793 ls []) := by
      refine lv_goto (tgt := 1407) hx hb dL_law_793 (by decide) ?_
      refine W.widen (k := 200 + 8 * (j + 1)) (n := 20000 + 429 * (j + 1)) (by omega) (by omega) ?_
      exact hn kk (wb' u) wm' _ H locs ls (hI u) hP hD hS (lv_sub hl [2, 3, 4, 5, 6] rfl)
    refine lv_iload hx hb dL_law_776 (lv_at hl 1 rfl) ?_
    refine lv_if_ne (tgt := 793) hx hb dL_law_778 (by decide) (fun _ => fin) (fun q => ?_)
    refine lv_aload_n hx hb dL_law_781 rfl (lv_at hl 5 rfl) ?_
    refine lv_iconst (v := 0) hx hb dL_law_782 (by decide) ?_
    refine va_lald hx hb hK hP 0 1 rfl rfl (vp_in_nI (n := 0) (N := 1) (by decide) (by decide)) dL_law_783 ?_
    refine lv_topl (fun y ey => ?_)
    have ey2 : y = bb.toInt64 := by
      rw [ey, if_pos q]
      exact (out0 f r _ (by decide)).trans (hrb q)
    subst ey2
    clear ey
    refine lv_iload hx hb dL_law_784 (lv_at hl 0 rfl) ?_
    refine lv_i2l hx hb dL_law_786 rfl ?_
    refine W.lcmp hx hb dL_law_787 ?_
    exact lv_if_eq (tgt := 793) hx hb dL_law_788 (by decide) (fun _ => fin) (fun q => absurd (lg_self _) q)
set_option maxHeartbeats 4000000 in
set_option maxRecDepth 100000 in
theorem case_value {p : Program} {l : Launch} {e : Env} {s : State} {m : MethodId} {below : List Frame} {meth : Method} {c : Code} {D : va_G} {k : Nat → ClassId} {b L : Nat} {xs : Nat → Int32} {a0 m0 qo : Nat} (C : lwCtx p l e s m below meth c D k b L xs) {Q : State → Prop} {j : Nat} (hj : 5 * j + 5 ≤ L) (hn : lwAt p l e s m below meth c D k b a0 m0 qo Q 1407 j (j + 1)) : lwAt p l e s m below meth c D k b a0 m0 qo Q 796 j j := by
  obtain ⟨hx, hb, hml, hown, hts, hX, hbl, hK, hXP, hXN, hNW, hL, hst⟩ := C
  intro th wb wm f H locs ls hI0 hP hD hS hl
  have hA : ∀ q : Nat, s.heap.size ≤ q → lwA s q := fun _ h => h
  have hbA : ¬ lwA s b := Nat.not_le.mpr hbl
  have in1 : vp_in (nI (5 * j) + 1) L := by
    rw [nI_1]
    exact vp_in_nI (by omega) (by omega)
  have in2 : vp_in (nI (5 * j) + 2) L := by
    rw [show (2 : Int32) = nI 2 from rfl, nI_add]
    exact vp_in_nI (by omega) (by omega)
  have in3 : vp_in (nI (5 * j) + 3) L := by
    rw [show (3 : Int32) = nI 3 from rfl, nI_add]
    exact vp_in_nI (by omega) (by omega)
  have in4 : vp_in (nI (5 * j) + 4) L := by
    rw [show (4 : Int32) = nI 4 from rfl, nI_add]
    exact vp_in_nI (by omega) (by omega)
  refine lv_aload_n hx hb dL_law_796 rfl (lv_at hl 1 rfl) ?_
  refine lv_aload_n hx hb dL_law_797 rfl (lv_at hl 0 rfl) ?_
  refine lv_iload hx hb dL_law_798 (lv_at hl 4 rfl) ?_
  refine lv_iconst (v := 1) hx hb dL_law_800 (by decide) ?_
  refine lv_iadd hx hb dL_law_801 ?_
  refine va_sld hx hb hX hbl hbA hS in1 dL_law_802 ?_
  refine lv_aload_n hx hb dL_law_803 rfl (lv_at hl 3 rfl) ?_
  obtain ⟨kk, bb, r, wb', wm', hI, ⟨rm, mc, ms, ⟨hrc, hrs, hmc, hms, hfr, hlo⟩, hBM⟩, ⟨rm2, ⟨h2c, h2s, h2f, h2l⟩, hMM⟩, hrb⟩ := step_value l hst D k (xs (nI (5 * j) + 1).toNatClampNeg) a0 m0 th wb wm hI0
  have hXPH := hXP.keep (H1 := H) (fun a h1 h2 => hS.2.1 a h1 h2)
  have hPc := vs_l hP
  have hDc := vd_l hD
  have hFc := vs_free hDc hS hA
  refine xc_iG (vx_runSW (As := [.ref a0, .int (xs (nI (5 * j) + 1).toNatClampNeg), .ref qo]) (rest := []) ⟨hx, hb, hml, hown, hts⟩ (hBM qo f H.size) (vx_cwSW 3 hts gL_law_L_value rfl hrc hrs (by decide +kernel) ⟨by show rm.frames + 1 ≤ 2048; omega, by show 8 + (4 + 11) + rm.locals ≤ 84000; omega⟩) ⟨pz_blind, pz_start hPc hK hDc hXPH hXN hNW hFc⟩ rfl rfl hl.1 rfl (lv_room (Nat.le_of_ble_eq_true rfl)) dL_law_804 ⟨by show 200 + 8 * j + mc ≤ 601024; omega, by show 20000 + 429 * j + ms ≤ 7293034; omega⟩) hS hFc (fun u H1 locs hP1 hD1 hk1 hS => ?_)
  obtain ⟨hP, hD⟩ := vs_joinL hP hD hFc hk1 hP1 hD1
  clear hP1 hD1 hk1 hFc hPc hDc hXPH
  generalize H1 = H at hP hS ⊢
  refine lv_istore (lv' := [(5, .int kk), (0, .ref b), (1, .ref a0), (2, .ref m0), (3, .ref qo), (4, .int (nI (5 * j)))]) hx hb dL_law_807 hl (by decide) rfl (fun ls hl => ?_)
  refine lv_aload_n hx hb dL_law_809 rfl (lv_at hl 3 rfl) ?_
  refine lv_aload_n hx hb dL_law_810 rfl (lv_at hl 1 rfl) ?_
  refine lv_iload hx hb dL_law_811 (lv_at hl 5 rfl) ?_
  refine lv_iconst (v := 1) hx hb dL_law_813 (by decide) ?_
  refine lv_iadd hx hb dL_law_814 ?_
  refine va_sld hx hb hX hbl hbA hS in1 dL_law_815 ?_
  obtain ⟨gs, hm0⟩ := INV_m hI0
  have hPc := vs_r hP
  have hDc := vd_r hD
  have hFc := vs_free hDc hS hA
  refine xc_l (va_runV (As := [.int (xs (nI (5 * j) + 1).toNatClampNeg)]) (rest := []) ⟨hx, hb, hml, hown, hts⟩ (hMM H.size) (cwV 1 hts gL_law_X7_value rfl h2c h2s (by decide +kernel) ⟨by show rm2.frames + 1 ≤ 2048; omega, by show 8 + (2 + 11) + rm2.locals ≤ 84000; omega⟩) ⟨pw_blind, va_recv hK hPc (ci := 7) (q0 := 0) rfl hm0, pw_start hPc hK hDc⟩ rfl rfl hl.1 rfl (lv_room (Nat.le_of_ble_eq_true rfl)) dL_law_816 ⟨by show 200 + 8 * j + mc + 0 ≤ 601024; omega, by show 20000 + 429 * j + ms + 0 ≤ 7293034; omega⟩) hS hFc (fun H1 locs hP1 hD1 hk1 hS => ?_)
  obtain ⟨hP, hD⟩ := vs_joinR hP hD hFc hk1 hP1 hD1
  clear hP1 hD1 hk1 hFc hPc hDc hm0
  generalize H1 = H at hP hS ⊢
  refine lv_lstore (lv' := [(6, .long bb), (5, .int kk), (0, .ref b), (1, .ref a0), (2, .ref m0), (3, .ref qo), (4, .int (nI (5 * j)))]) hx hb dL_law_819 hl (by decide) rfl (fun ls hl => ?_)
  refine lv_aload_n hx hb dL_law_821 rfl (lv_at hl 4 rfl) ?_
  obtain ⟨gs2, hm2⟩ := INV_m (hI u)
  have hPc := vs_r hP
  have hDc := vd_r hD
  have hFc := vs_free hDc hS hA
  refine xc_i (va_runV (As := []) (rest := []) ⟨hx, hb, hml, hown, hts⟩ (INV_thrown l D (hI u) H.size) (cwV 0 hts gL_law_X7_thrown rfl rfl rfl (by decide +kernel) ⟨Nat.le_of_ble_eq_true rfl, Nat.le_of_ble_eq_true rfl⟩) ⟨pw_blind, va_recv hK hPc (ci := 7) (q0 := 0) rfl hm2, pw_start hPc hK hDc⟩ rfl rfl hl.1 rfl (lv_room (Nat.le_of_ble_eq_true rfl)) dL_law_822 ⟨by show 200 + 8 * j + mc + 0 + 0 ≤ 601024; omega, by show 20000 + 429 * j + ms + 0 + 0 ≤ 7293034; omega⟩) hS hFc (fun H1 locs hP1 hD1 hk1 hS => ?_)
  obtain ⟨hP, hD⟩ := vs_joinR hP hD hFc hk1 hP1 hD1
  clear hP1 hD1 hk1 hFc hPc hDc hm2
  generalize H1 = H at hP hS ⊢
  refine lv_iload hx hb dL_law_825 (lv_at hl 1 rfl) ?_
  refine lv_icmp_eq (tgt := 832) hx hb dL_law_827 (by decide) (fun _ => ?_) (fun q => absurd rfl q)
  have fin : W p l e room_1 s m #[Value.ref b] below meth c H locs (200 + 8 * j + mc + 0 + 0) (20000 + 429 * j + ms + 0 + 0) Q (F0 m 848 ls []) := by
    refine lv_goto (tgt := 1407) hx hb dL_law_848 (by decide) ?_
    refine W.widen (k := 200 + 8 * (j + 1)) (n := 20000 + 429 * (j + 1)) (by omega) (by omega) ?_
    exact hn kk (wb' u) wm' _ H locs ls (hI u) hP hD hS (lv_sub hl [2, 3, 4, 5, 6] rfl)
  refine lv_iload hx hb dL_law_832 (lv_at hl 1 rfl) ?_
  refine lv_if_ne (tgt := 848) hx hb dL_law_834 (by decide) (fun _ => fin) (fun q => ?_)
  refine lv_aload_n hx hb dL_law_837 rfl (lv_at hl 5 rfl) ?_
  refine lv_iconst (v := 0) hx hb dL_law_838 (by decide) ?_
  refine va_lald hx hb hK hP 0 1 rfl rfl (vp_in_nI (n := 0) (N := 1) (by decide) (by decide)) dL_law_839 ?_
  refine lv_topl (fun y ey => ?_)
  have ey2 : y = bb := by
    rw [ey, if_pos q]
    exact (out0 f r _ (by decide)).trans (hrb q)
  subst ey2
  clear ey
  refine lv_lload hx hb dL_law_840 (lv_at hl 0 rfl) ?_
  refine W.lcmp hx hb dL_law_842 ?_
  exact lv_if_eq (tgt := 848) hx hb dL_law_843 (by decide) (fun _ => fin) (fun q => absurd (lg_self _) q)
