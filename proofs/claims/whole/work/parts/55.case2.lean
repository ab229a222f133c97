set_option maxHeartbeats 4000000 in
set_option maxRecDepth 100000 in
theorem case_sensitivity {p : Program} {l : Launch} {e : Env} {s : State} {m : MethodId} {below : List Frame} {meth : Method} {c : Code} {D : va_G} {k : Nat → ClassId} {b L : Nat} {xs : Nat → Int32} {a0 m0 qo : Nat} (C : lwCtx p l e s m below meth c D k b L xs) {Q : State → Prop} {j : Nat} (hj : 5 * j + 5 ≤ L) (hn : lwAt p l e s m below meth c D k b a0 m0 qo Q 1407 j (j + 1)) : lwAt p l e s m below meth c D k b a0 m0 qo Q 851 j j := by
  obtain ⟨hx, hb, hml, hown, hts, hX, hbl, hK, hXP, hXN, hNW, hL, hst⟩ := C
  intro th wb wm f H locs ls hI0 hP hD hS hl
  have hA : ∀ q : Nat, s.heap.size ≤ q → lwA s q := fun _ h => h
  have hbA : ¬ lwA s b := Nat.not_le.mpr hbl
  have in1 : vp_in (nI (5 * j) + 1) L := by
    rw [nI_1]
    exact vp_in_nI (by omega) (by omega)
  have in2 : vp_in (nI (5 * j) + 2) L := by
    rw [show (2 : Int32) = nI 2 from rfl, nI_add]
    exact vp_in_nI (by omega) (by omega)
  have in3 : vp_in (nI (5 * j) + 3) L := by
    rw [show (3 : Int32) = nI 3 from rfl, nI_add]
    exact vp_in_nI (by omega) (by omega)
  have in4 : vp_in (nI (5 * j) + 4) L := by
    rw [show (4 : Int32) = nI 4 from rfl, nI_add]
    exact vp_in_nI (by omega) (by omega)
  refine lv_aload_n hx hb dL_law_851 rfl (lv_at hl 1 rfl) ?_
  refine lv_aload_n hx hb dL_law_852 rfl (lv_at hl 0 rfl) ?_
  refine lv_iload hx hb dL_law_853 (lv_at hl 4 rfl) ?_
  refine lv_iconst (v := 1) hx hb dL_law_855 (by decide) ?_
  refine lv_iadd hx hb dL_law_856 ?_
  refine va_sld hx hb hX hbl hbA hS in1 dL_law_857 ?_
  refine lv_aload_n hx hb dL_law_858 rfl (lv_at hl 0 rfl) ?_
  refine lv_iload hx hb dL_law_859 (lv_at hl 4 rfl) ?_
  refine lv_iconst (v := 2) hx hb dL_law_861 (by decide) ?_
  refine lv_iadd hx hb dL_law_862 ?_
  refine va_sld hx hb hX hbl hbA hS in2 dL_law_863 ?_
  refine lv_aload_n hx hb dL_law_864 rfl (lv_at hl 3 rfl) ?_
  obtain ⟨kk, bb, r, wb', wm', hI, ⟨rm, mc, ms, ⟨hrc, hrs, hmc, hms, hfr, hlo⟩, hBM⟩, ⟨rm2, ⟨h2c, h2s, h2f, h2l⟩, hMM⟩, hrb⟩ := step_sensitivity l hst D k (xs (nI (5 * j) + 1).toNatClampNeg) (xs (nI (5 * j) + 2).toNatClampNeg) a0 m0 th wb wm hI0
  have hXPH := hXP.keep (H1 := H) (fun a h1 h2 => hS.2.1 a h1 h2)
  have hPc := vs_l hP
  have hDc := vd_l hD
  have hFc := vs_free hDc hS hA
  refine xc_iG (vx_runSW (As := [.ref a0, .int (xs (nI (5 * j) + 1).toNatClampNeg), .int (xs (nI (5 * j) + 2).toNatClampNeg), .ref qo]) (rest := []) ⟨hx, hb, hml, hown, hts⟩ (hBM qo f H.size) (vx_cwSW 4 hts gL_law_L_sensitivity rfl hrc hrs (by decide +kernel) ⟨by show rm.frames + 1 ≤ 2048; omega, by show 8 + (5 + 11) + rm.locals ≤ 84000; omega⟩) ⟨pz_blind, pz_start hPc hK hDc hXPH hXN hNW hFc⟩ rfl rfl hl.1 rfl (lv_room (Nat.le_of_ble_eq_true rfl)) dL_law_865 ⟨by show 200 + 8 * j + mc ≤ 601024; omega, by show 20000 + 429 * j + ms ≤ 7293034; omega⟩) hS hFc (fun u H1 locs hP1 hD1 hk1 hS => ?_)
  obtain ⟨hP, hD⟩ := vs_joinL hP hD hFc hk1 hP1 hD1
  clear hP1 hD1 hk1 hFc hPc hDc hXPH
  generalize H1 = H at hP hS ⊢
  refine lv_istore (lv' := [(5, .int kk), (0, .ref b), (1, .ref a0), (2, .ref m0), (3, .ref qo), (4, .int (nI (5 * j)))]) hx hb dL_law_868 hl (by decide) rfl (fun ls hl => ?_)
  refine lv_aload_n hx hb dL_law_870 rfl (lv_at hl 3 rfl) ?_
  refine lv_aload_n hx hb dL_law_871 rfl (lv_at hl 1 rfl) ?_
  refine lv_iload hx hb dL_law_872 (lv_at hl 5 rfl) ?_
  refine lv_iconst (v := 1) hx hb dL_law_874 (by decide) ?_
  refine lv_iadd hx hb dL_law_875 ?_
  refine va_sld hx hb hX hbl hbA hS in1 dL_law_876 ?_
  refine lv_aload_n hx hb dL_law_877 rfl (lv_at hl 1 rfl) ?_
  refine lv_iload hx hb dL_law_878 (lv_at hl 5 rfl) ?_
  refine lv_iconst (v := 2) hx hb dL_law_880 (by decide) ?_
  refine lv_iadd hx hb dL_law_881 ?_
  refine va_sld hx hb hX hbl hbA hS in2 dL_law_882 ?_
  obtain ⟨gs, hm0⟩ := INV_m hI0
  have hPc := vs_r hP
  have hDc := vd_r hD
  have hFc := vs_free hDc hS hA
  refine xc_l (va_runV (As := [.int (xs (nI (5 * j) + 1).toNatClampNeg), .int (xs (nI (5 * j) + 2).toNatClampNeg)]) (rest := []) ⟨hx, hb, hml, hown, hts⟩ (hMM H.size) (cwV 2 hts gL_law_X7_sensitivity rfl h2c h2s (by decide +kernel) ⟨by show rm2.frames + 1 ≤ 2048; omega, by show 8 + (3 + 11) + rm2.locals ≤ 84000; omega⟩) ⟨pw_blind, va_recv hK hPc (ci := 7) (q0 := 0) rfl hm0, pw_start hPc hK hDc⟩ rfl rfl hl.1 rfl (lv_room (Nat.le_of_ble_eq_true rfl)) dL_law_883 ⟨by show 200 + 8 * j + mc + 0 ≤ 601024; omega, by show 20000 + 429 * j + ms + 0 ≤ 7293034; omega⟩) hS hFc (fun H1 locs hP1 hD1 hk1 hS => ?_)
  obtain ⟨hP, hD⟩ := vs_joinR hP hD hFc hk1 hP1 hD1
  clear hP1 hD1 hk1 hFc hPc hDc hm0
  generalize H1 = H at hP hS ⊢
  refine lv_lstore (lv' := [(6, .long bb), (5, .int kk), (0, .ref b), (1, .ref a0), (2, .ref m0), (3, .ref qo), (4, .int (nI (5 * j)))]) hx hb dL_law_886 hl (by decide) rfl (fun ls hl => ?_)
  refine lv_aload_n hx hb dL_law_888 rfl (lv_at hl 4 rfl) ?_
  obtain ⟨gs2, hm2⟩ := INV_m (hI u)
  have hPc := vs_r hP
  have hDc := vd_r hD
  have hFc := vs_free hDc hS hA
  refine xc_i (va_runV (As := []) (rest := []) ⟨hx, hb, hml, hown, hts⟩ (INV_thrown l D (hI u) H.size) (cwV 0 hts gL_law_X7_thrown rfl rfl rfl (by decide +kernel) ⟨Nat.le_of_ble_eq_true rfl, Nat.le_of_ble_eq_true rfl⟩) ⟨pw_blind, va_recv hK hPc (ci := 7) (q0 := 0) rfl hm2, pw_start hPc hK hDc⟩ rfl rfl hl.1 rfl (lv_room (Nat.le_of_ble_eq_true rfl)) dL_law_889 ⟨by show 200 + 8 * j + mc + 0 + 0 ≤ 601024; omega, by show 20000 + 429 * j + ms + 0 + 0 ≤ 7293034; omega⟩) hS hFc (fun H1 locs hP1 hD1 hk1 hS => ?_)
  obtain ⟨hP, hD⟩ := vs_joinR hP hD hFc hk1 hP1 hD1
  clear hP1 hD1 hk1 hFc hPc hDc hm2
  generalize H1 = H at hP hS ⊢
  refine lv_iload hx hb dL_law_892 (lv_at hl 1 rfl) ?_
  refine lv_icmp_eq (tgt := 899) hx hb dL_law_894 (by decide) (fun _ => ?_) (fun q => absurd rfl q)
  have fin : W p l e room_1 s m #[Value.ref b] below meth c H locs (200 + 8 * j + mc + 0 + 0) (20000 + 429 * j + ms + 0 + 0) Q (F0 m 915 ls []) := by
    refine lv_goto (tgt := 1407) hx hb dL_law_915 (by decide) ?_
    refine W.widen (k := 200 + 8 * (j + 1)) (n := 20000 + 429 * (j + 1)) (by omega) (by omega) ?_
    exact hn kk (wb' u) wm' _ H locs ls (hI u) hP hD hS (lv_sub hl [2, 3, 4, 5, 6] rfl)
  refine lv_iload hx hb dL_law_899 (lv_at hl 1 rfl) ?_
  refine lv_if_ne (tgt := 915) hx hb dL_law_901 (by decide) (fun _ => fin) (fun q => ?_)
  refine lv_aload_n hx hb dL_law_904 rfl (lv_at hl 5 rfl) ?_
  refine lv_iconst (v := 0) hx hb dL_law_905 (by decide) ?_
  refine va_lald hx hb hK hP 0 1 rfl rfl (vp_in_nI (n := 0) (N := 1) (by decide) (by decide)) dL_law_906 ?_
  refine lv_topl (fun y ey => ?_)
  have ey2 : y = bb := by
    rw [ey, if_pos q]
    exact (out0 f r _ (by decide)).trans (hrb q)
  subst ey2
  clear ey
  refine lv_lload hx hb dL_law_907 (lv_at hl 0 rfl) ?_
  refine W.lcmp hx hb dL_law_909 ?_
  exact lv_if_eq (tgt := 915) hx hb dL_law_910 (by decide) (fun _ => fin) (fun q => absurd (lg_self _) q)
set_option maxHeartbeats 4000000 in
set_option maxRecDepth 100000 in
theorem case_sensitivityAnew {p : Program} {l : Launch} {e : Env} {s : State} {m : MethodId} {below : List Frame} {meth : Method} {c : Code} {D : va_G} {k : Nat → ClassId} {b L : Nat} {xs : Nat → Int32} {a0 m0 qo : Nat} (C : lwCtx p l e s m below meth c D k b L xs) {Q : State → Prop} {j : Nat} (hj : 5 * j + 5 ≤ L) (hn : lwAt p l e s m below meth c D k b a0 m0 qo Q 1407 j (j + 1)) : lwAt p l e s m below meth c D k b a0 m0 qo Q 918 j j := by
  obtain ⟨hx, hb, hml, hown, hts, hX, hbl, hK, hXP, hXN, hNW, hL, hst⟩ := C
  intro th wb wm f H locs ls hI0 hP hD hS hl
  have hA : ∀ q : Nat, s.heap.size ≤ q → lwA s q := fun _ h => h
  have hbA : ¬ lwA s b := Nat.not_le.mpr hbl
  have in1 : vp_in (nI (5 * j) + 1) L := by
    rw [nI_1]
    exact vp_in_nI (by omega) (by omega)
  have in2 : vp_in (nI (5 * j) + 2) L := by
    rw [show (2 : Int32) = nI 2 from rfl, nI_add]
    exact vp_in_nI (by omega) (by omega)
  have in3 : vp_in (nI (5 * j) + 3) L := by
    rw [show (3 : Int32) = nI 3 from rfl, nI_add]
    exact vp_in_nI (by omega) (by omega)
  have in4 : vp_in (nI (5 * j) + 4) L := by
    rw [show (4 : Int32) = nI 4 from rfl, nI_add]
    exact vp_in_nI (by omega) (by omega)
  refine lv_aload_n hx hb dL_law_918 rfl (lv_at hl 1 rfl) ?_
  refine lv_aload_n hx hb dL_law_919 rfl (lv_at hl 0 rfl) ?_
  refine lv_iload hx hb dL_law_920 (lv_at hl 4 rfl) ?_
  refine lv_iconst (v := 1) hx hb dL_law_922 (by decide) ?_
  refine lv_iadd hx hb dL_law_923 ?_
  refine va_sld hx hb hX hbl hbA hS in1 dL_law_924 ?_
  refine lv_aload_n hx hb dL_law_925 rfl (lv_at hl 0 rfl) ?_
  refine lv_iload hx hb dL_law_926 (lv_at hl 4 rfl) ?_
  refine lv_iconst (v := 2) hx hb dL_law_928 (by decide) ?_
  refine lv_iadd hx hb dL_law_929 ?_
  refine va_sld hx hb hX hbl hbA hS in2 dL_law_930 ?_
  refine lv_aload_n hx hb dL_law_931 rfl (lv_at hl 3 rfl) ?_
  obtain ⟨kk, bb, r, wb', wm', hI, ⟨rm, mc, ms, ⟨hrc, hrs, hmc, hms, hfr, hlo⟩, hBM⟩, ⟨rm2, ⟨h2c, h2s, h2f, h2l⟩, hMM⟩, hrb⟩ := step_sensitivityAnew l hst D k (xs (nI (5 * j) + 1).toNatClampNeg) (xs (nI (5 * j) + 2).toNatClampNeg) a0 m0 th wb wm hI0
  have hXPH := hXP.keep (H1 := H) (fun a h1 h2 => hS.2.1 a h1 h2)
  have hPc := vs_l hP
  have hDc := vd_l hD
  have hFc := vs_free hDc hS hA
  refine xc_iG (vx_runSW (As := [.ref a0, .int (xs (nI (5 * j) + 1).toNatClampNeg), .int (xs (nI (5 * j) + 2).toNatClampNeg), .ref qo]) (rest := []) ⟨hx, hb, hml, hown, hts⟩ (hBM qo f H.size) (vx_cwSW 4 hts gL_law_L_sensitivityAnew rfl hrc hrs (by decide +kernel) ⟨by show rm.frames + 1 ≤ 2048; omega, by show 8 + (5 + 11) + rm.locals ≤ 84000; omega⟩) ⟨pz_blind, pz_start hPc hK hDc hXPH hXN hNW hFc⟩ rfl rfl hl.1 rfl (lv_room (Nat.le_of_ble_eq_true rfl)) dL_law_932 ⟨by show 200 + 8 * j + mc ≤ 601024; omega, by show 20000 + 429 * j + ms ≤ 7293034; omega⟩) hS hFc (fun u H1 locs hP1 hD1 hk1 hS => ?_)
  obtain ⟨hP, hD⟩ := vs_joinL hP hD hFc hk1 hP1 hD1
  clear hP1 hD1 hk1 hFc hPc hDc hXPH
  generalize H1 = H at hP hS ⊢
  refine lv_istore (lv' := [(5, .int kk), (0, .ref b), (1, .ref a0), (2, .ref m0), (3, .ref qo), (4, .int (nI (5 * j)))]) hx hb dL_law_935 hl (by decide) rfl (fun ls hl => ?_)
  refine lv_aload_n hx hb dL_law_937 rfl (lv_at hl 3 rfl) ?_
  refine lv_aload_n hx hb dL_law_938 rfl (lv_at hl 1 rfl) ?_
  refine lv_iload hx hb dL_law_939 (lv_at hl 5 rfl) ?_
  refine lv_iconst (v := 1) hx hb dL_law_941 (by decide) ?_
  refine lv_iadd hx hb dL_law_942 ?_
  refine va_sld hx hb hX hbl hbA hS in1 dL_law_943 ?_
  refine lv_aload_n hx hb dL_law_944 rfl (lv_at hl 1 rfl) ?_
  refine lv_iload hx hb dL_law_945 (lv_at hl 5 rfl) ?_
  refine lv_iconst (v := 2) hx hb dL_law_947 (by decide) ?_
  refine lv_iadd hx hb dL_law_948 ?_
  refine va_sld hx hb hX hbl hbA hS in2 dL_law_949 ?_
  obtain ⟨gs, hm0⟩ := INV_m hI0
  have hPc := vs_r hP
  have hDc := vd_r hD
  have hFc := vs_free hDc hS hA
  refine xc_l (va_runV (As := [.int (xs (nI (5 * j) + 1).toNatClampNeg), .int (xs (nI (5 * j) + 2).toNatClampNeg)]) (rest := []) ⟨hx, hb, hml, hown, hts⟩ (hMM H.size) (cwV 2 hts gL_law_X7_sensitivityAnew rfl h2c h2s (by decide +kernel) ⟨by show rm2.frames + 1 ≤ 2048; omega, by show 8 + (3 + 11) + rm2.locals ≤ 84000; omega⟩) ⟨pw_blind, va_recv hK hPc (ci := 7) (q0 := 0) rfl hm0, pw_start hPc hK hDc⟩ rfl rfl hl.1 rfl (lv_room (Nat.le_of_ble_eq_true rfl)) dL_law_950 ⟨by show 200 + 8 * j + mc + 0 ≤ 601024; omega, by show 20000 + 429 * j + ms + 0 ≤ 7293034; omega⟩) hS hFc (fun H1 locs hP1 hD1 hk1 hS => ?_)
  obtain ⟨hP, hD⟩ := vs_joinR hP hD hFc hk1 hP1 hD1
  clear hP1 hD1 hk1 hFc hPc hDc hm0
  generalize H1 = H at hP hS ⊢
  refine lv_lstore (lv' := [(6, .long bb), (5, .int kk), (0, .ref b), (1, .ref a0), (2, .ref m0), (3, .ref qo), (4, .int (nI (5 * j)))]) hx hb dL_law_953 hl (by decide) rfl (fun ls hl => ?_)
  refine lv_aload_n hx hb dL_law_955 rfl (lv_at hl 4 rfl) ?_
  obtain ⟨gs2, hm2⟩ := INV_m (hI u)
  have hPc := vs_r hP
  have hDc := vd_r hD
  have hFc := vs_free hDc hS hA
  refine xc_i (va_runV (As := []) (rest := []) ⟨hx, hb, hml, hown, hts⟩ (INV_thrown l D (hI u) H.size) (cwV 0 hts gL_law_X7_thrown rfl rfl rfl (by decide +kernel) ⟨Nat.le_of_ble_eq_true rfl, Nat.le_of_ble_eq_true rfl⟩) ⟨pw_blind, va_recv hK hPc (ci := 7) (q0 := 0) rfl hm2, pw_start hPc hK hDc⟩ rfl rfl hl.1 rfl (lv_room (Nat.le_of_ble_eq_true rfl)) dL_law_956 ⟨by show 200 + 8 * j + mc + 0 + 0 ≤ 601024; omega, by show 20000 + 429 * j + ms + 0 + 0 ≤ 7293034; omega⟩) hS hFc (fun H1 locs hP1 hD1 hk1 hS => ?_)
  obtain ⟨hP, hD⟩ := vs_joinR hP hD hFc hk1 hP1 hD1
  clear hP1 hD1 hk1 hFc hPc hDc hm2
  generalize H1 = H at hP hS ⊢
  refine lv_iload hx hb dL_law_959 (lv_at hl 1 rfl) ?_
  refine lv_icmp_eq (tgt := 966) hx hb dL_law_961 (by decide) (fun _ => ?_) (fun q => absurd rfl q)
  have fin : W p l e room_1 s m #[Value.ref b] below meth c H locs (200 + 8 * j + mc + 0 + 0) (20000 + 429 * j + ms + 0 + 0) Q (F0 m 982 ls []) := by
    refine lv_goto (tgt := 1407) hx hb dL_law_982 (by decide) ?_
    refine W.widen (k := 200 + 8 * (j + 1)) (n := 20000 + 429 * (j + 1)) (by omega) (by omega) ?_
    exact hn kk (wb' u) wm' _ H locs ls (hI u) hP hD hS (lv_sub hl [2, 3, 4, 5, 6] rfl)
  refine lv_iload hx hb dL_law_966 (lv_at hl 1 rfl) ?_
  refine lv_if_ne (tgt := 982) hx hb dL_law_968 (by decide) (fun _ => fin) (fun q => ?_)
  refine lv_aload_n hx hb dL_law_971 rfl (lv_at hl 5 rfl) ?_
  refine lv_iconst (v := 0) hx hb dL_law_972 (by decide) ?_
  refine va_lald hx hb hK hP 0 1 rfl rfl (vp_in_nI (n := 0) (N := 1) (by decide) (by decide)) dL_law_973 ?_
  refine lv_topl (fun y ey => ?_)
  have ey2 : y = bb := by
    rw [ey, if_pos q]
    exact (out0 f r _ (by decide)).trans (hrb q)
  subst ey2
  clear ey
  refine lv_lload hx hb dL_law_974 (lv_at hl 0 rfl) ?_
  refine W.lcmp hx hb dL_law_976 ?_
  exact lv_if_eq (tgt := 982) hx hb dL_law_977 (by decide) (fun _ => fin) (fun q => absurd (lg_self _) q)
set_option maxHeartbeats 4000000 in
set_option maxRecDepth 100000 in
theorem case_budget {p : Program} {l : Launch} {e : Env} {s : State} {m : MethodId} {below : List Frame} {meth : Method} {c : Code} {D : va_G} {k : Nat → ClassId} {b L : Nat} {xs : Nat → Int32} {a0 m0 qo : Nat} (C : lwCtx p l e s m below meth c D k b L xs) {Q : State → Prop} {j : Nat} (hj : 5 * j + 5 ≤ L) (hn : lwAt p l e s m below meth c D k b a0 m0 qo Q 1407 j (j + 1)) : lwAt p l e s m below meth c D k b a0 m0 qo Q 985 j j := by
  obtain ⟨hx, hb, hml, hown, hts, hX, hbl, hK, hXP, hXN, hNW, hL, hst⟩ := C
  intro th wb wm f H locs ls hI0 hP hD hS hl
  have hA : ∀ q : Nat, s.heap.size ≤ q → lwA s q := fun _ h => h
  have hbA : ¬ lwA s b := Nat.not_le.mpr hbl
  have in1 : vp_in (nI (5 * j) + 1) L := by
    rw [nI_1]
    exact vp_in_nI (by omega) (by omega)
  have in2 : vp_in (nI (5 * j) + 2) L := by
    rw [show (2 : Int32) = nI 2 from rfl, nI_add]
    exact vp_in_nI (by omega) (by omega)
  have in3 : vp_in (nI (5 * j) + 3) L := by
    rw [show (3 : Int32) = nI 3 from rfl, nI_add]
    exact vp_in_nI (by omega) (by omega)
  have in4 : vp_in (nI (5 * j) + 4) L := by
    rw [show (4 : Int32) = nI 4 from rfl, nI_add]
    exact vp_in_nI (by omega) (by omega)
  refine lv_aload_n hx hb dL_law_985 rfl (lv_at hl 1 rfl) ?_
  refine lv_aload_n hx hb dL_law_986 rfl (lv_at hl 0 rfl) ?_
  refine lv_iload hx hb dL_law_987 (lv_at hl 4 rfl) ?_
  refine lv_iconst (v := 1) hx hb dL_law_989 (by decide) ?_
  refine lv_iadd hx hb dL_law_990 ?_
  refine va_sld hx hb hX hbl hbA hS in1 dL_law_991 ?_
  refine lv_aload_n hx hb dL_law_992 rfl (lv_at hl 0 rfl) ?_
  refine lv_iload hx hb dL_law_993 (lv_at hl 4 rfl) ?_
  refine lv_iconst (v := 2) hx hb dL_law_995 (by decide) ?_
  refine lv_iadd hx hb dL_law_996 ?_
  refine va_sld hx hb hX hbl hbA hS in2 dL_law_997 ?_
  refine lv_aload_n hx hb dL_law_998 rfl (lv_at hl 3 rfl) ?_
  obtain ⟨kk, bb, r, wb', wm', hI, ⟨rm, mc, ms, ⟨hrc, hrs, hmc, hms, hfr, hlo⟩, hBM⟩, ⟨rm2, ⟨h2c, h2s, h2f, h2l⟩, hMM⟩, hrb⟩ := step_budget l hst D k (xs (nI (5 * j) + 1).toNatClampNeg) (xs (nI (5 * j) + 2).toNatClampNeg) a0 m0 th wb wm hI0
  have hXPH := hXP.keep (H1 := H) (fun a h1 h2 => hS.2.1 a h1 h2)
  have hPc := vs_l hP
  have hDc := vd_l hD
  have hFc := vs_free hDc hS hA
  refine xc_iG (vx_runSW (As := [.ref a0, .int (xs (nI (5 * j) + 1).toNatClampNeg), .int (xs (nI (5 * j) + 2).toNatClampNeg), .ref qo]) (rest := []) ⟨hx, hb, hml, hown, hts⟩ (hBM qo f H.size) (vx_cwSW 4 hts gL_law_L_budget rfl hrc hrs (by decide +kernel) ⟨by show rm.frames + 1 ≤ 2048; omega, by show 8 + (5 + 11) + rm.locals ≤ 84000; omega⟩) ⟨pz_blind, pz_start hPc hK hDc hXPH hXN hNW hFc⟩ rfl rfl hl.1 rfl (lv_room (Nat.le_of_ble_eq_true rfl)) dL_law_999 ⟨by show 200 + 8 * j + mc ≤ 601024; omega, by show 20000 + 429 * j + ms ≤ 7293034; omega⟩) hS hFc (fun u H1 locs hP1 hD1 hk1 hS => ?_)
  obtain ⟨hP, hD⟩ := vs_joinL hP hD hFc hk1 hP1 hD1
  clear hP1 hD1 hk1 hFc hPc hDc hXPH
  generalize H1 = H at hP hS ⊢
  refine lv_istore (lv' := [(5, .int kk), (0, .ref b), (1, .ref a0), (2, .ref m0), (3, .ref qo), (4, .int (nI (5 * j)))]) hx hb dL_law_1002 hl (by decide) rfl (fun ls hl => ?_)
  refine lv_aload_n hx hb dL_law_1004 rfl (lv_at hl 3 rfl) ?_
  refine lv_aload_n hx hb dL_law_1005 rfl (lv_at hl 1 rfl) ?_
  refine lv_iload hx hb dL_law_1006 (lv_at hl 5 rfl) ?_
  refine lv_iconst (v := 1) hx hb dL_law_1008 (by decide) ?_
  refine lv_iadd hx hb dL_law_1009 ?_
  refine va_sld hx hb hX hbl hbA hS in1 dL_law_1010 ?_
  refine lv_aload_n hx hb dL_law_1011 rfl (lv_at hl 1 rfl) ?_
  refine lv_iload hx hb dL_law_1012 (lv_at hl 5 rfl) ?_
  refine lv_iconst (v := 2) hx hb dL_law_1014 (by decide) ?_
  refine lv_iadd hx hb dL_law_1015 ?_
  refine va_sld hx hb hX hbl hbA hS in2 dL_law_1016 ?_
  obtain ⟨gs, hm0⟩ := INV_m hI0
  have hPc := vs_r hP
  have hDc := vd_r hD
  have hFc := vs_free hDc hS hA
  refine xc_l (va_runV (As := [.int (xs (nI (5 * j) + 1).toNatClampNeg), .int (xs (nI (5 * j) + 2).toNatClampNeg)]) (rest := []) ⟨hx, hb, hml, hown, hts⟩ (hMM H.size) (cwV 2 hts gL_law_X7_budget rfl h2c h2s (by decide +kernel) ⟨by show rm2.frames + 1 ≤ 2048; omega, by show 8 + (5 + 11) + rm2.locals ≤ 84000; omega⟩) ⟨pw_blind, va_recv hK hPc (ci := 7) (q0 := 0) rfl hm0, pw_start hPc hK hDc⟩ rfl rfl hl.1 rfl (lv_room (Nat.le_of_ble_eq_true rfl)) dL_law_1017 ⟨by show 200 + 8 * j + mc + 0 ≤ 601024; omega, by show 20000 + 429 * j + ms + 0 ≤ 7293034; omega⟩) hS hFc (fun H1 locs hP1 hD1 hk1 hS => ?_)
  obtain ⟨hP, hD⟩ := vs_joinR hP hD hFc hk1 hP1 hD1
  clear hP1 hD1 hk1 hFc hPc hDc hm0
  generalize H1 = H at hP hS ⊢
  refine lv_lstore (lv' := [(6, .long bb), (5, .int kk), (0, .ref b), (1, .ref a0), (2, .ref m0), (3, .ref qo), (4, .int (nI (5 * j)))]) hx hb dL_law_1020 hl (by decide) rfl (fun ls hl => ?_)
  refine lv_aload_n hx hb dL_law_1022 rfl (lv_at hl 4 rfl) ?_
  obtain ⟨gs2, hm2⟩ := INV_m (hI u)
  have hPc := vs_r hP
  have hDc := vd_r hD
  have hFc := vs_free hDc hS hA
  refine xc_i (va_runV (As := []) (rest := []) ⟨hx, hb, hml, hown, hts⟩ (INV_thrown l D (hI u) H.size) (cwV 0 hts gL_law_X7_thrown rfl rfl rfl (by decide +kernel) ⟨Nat.le_of_ble_eq_true rfl, Nat.le_of_ble_eq_true rfl⟩) ⟨pw_blind, va_recv hK hPc (ci := 7) (q0 := 0) rfl hm2, pw_start hPc hK hDc⟩ rfl rfl hl.1 rfl (lv_room (Nat.le_of_ble_eq_true rfl)) dL_law_1023 ⟨by show 200 + 8 * j + mc + 0 + 0 ≤ 601024; omega, by show 20000 + 429 * j + ms + 0 + 0 ≤ 7293034; omega⟩) hS hFc (fun H1 locs hP1 hD1 hk1 hS => ?_)
  obtain ⟨hP, hD⟩ := vs_joinR hP hD hFc hk1 hP1 hD1
  clear hP1 hD1 hk1 hFc hPc hDc hm2
  generalize H1 = H at hP hS ⊢
  refine lv_iload hx hb dL_law_1026 (lv_at hl 1 rfl) ?_
  refine lv_icmp_eq (tgt := 1033) hx hb dL_law_1028 (by decide) (fun _ => ?_) (fun q => absurd rfl q)
  have fin : W p l e room_1 s m #[Value.ref b] below meth c H locs (200 + 8 * j + mc + 0 + 0) (20000 + 429 * j + ms + 0 + 0) Q (F0 m 1049 ls []) := by
    refine lv_goto (tgt := 1407) hx hb dL_law_1049 (by decide) ?_
    refine W.widen (k := 200 + 8 * (j + 1)) (n := 20000 + 429 * (j + 1)) (by omega) (by omega) ?_
    exact hn kk (wb' u) wm' _ H locs ls (hI u) hP hD hS (lv_sub hl [2, 3, 4, 5, 6] rfl)
  refine lv_iload hx hb dL_law_1033 (lv_at hl 1 rfl) ?_
  refine lv_if_ne (tgt := 1049) hx hb dL_law_1035 (by decide) (fun _ => fin) (fun q => ?_)
  refine lv_aload_n hx hb dL_law_1038 rfl (lv_at hl 5 rfl) ?_
  refine lv_iconst (v := 0) hx hb dL_law_1039 (by decide) ?_
  refine va_lald hx hb hK hP 0 1 rfl rfl (vp_in_nI (n := 0) (N := 1) (by decide) (by decide)) dL_law_1040 ?_
  refine lv_topl (fun y ey => ?_)
  have ey2 : y = bb := by
    rw [ey, if_pos q]
    exact (out0 f r _ (by decide)).trans (hrb q)
  subst ey2
  clear ey
  refine lv_lload hx hb dL_law_1041 (lv_at hl 0 rfl) ?_
  refine W.lcmp hx hb dL_law_1043 ?_
  exact lv_if_eq (tgt := 1049) hx hb dL_law_1044 (by decide) (fun _ => fin) (fun q => absurd (lg_self _) q)
set_option maxHeartbeats 4000000 in
set_option maxRecDepth 100000 in
theorem case_contribution {p : Program} {l : Launch} {e : Env} {s : State} {m : MethodId} {below : List Frame} {meth : Method} {c : Code} {D : va_G} {k : Nat → ClassId} {b L : Nat} {xs : Nat → Int32} {a0 m0 qo : Nat} (C : lwCtx p l e s m below meth c D k b L xs) {Q : State → Prop} {j : Nat} (hj : 5 * j + 5 ≤ L) (hn : lwAt p l e s m below meth c D k b a0 m0 qo Q 1407 j (j + 1)) : lwAt p l e s m below meth c D k b a0 m0 qo Q 1052 j j := by
  obtain ⟨hx, hb, hml, hown, hts, hX, hbl, hK, hXP, hXN, hNW, hL, hst⟩ := C
  intro th wb wm f H locs ls hI0 hP hD hS hl
  have hA : ∀ q : Nat, s.heap.size ≤ q → lwA s q := fun _ h => h
  have hbA : ¬ lwA s b := Nat.not_le.mpr hbl
  have in1 : vp_in (nI (5 * j) + 1) L := by
    rw [nI_1]
    exact vp_in_nI (by omega) (by omega)
  have in2 : vp_in (nI (5 * j) + 2) L := by
    rw [show (2 : Int32) = nI 2 from rfl, nI_add]
    exact vp_in_nI (by omega) (by omega)
  have in3 : vp_in (nI (5 * j) + 3) L := by
    rw [show (3 : Int32) = nI 3 from rfl, nI_add]
    exact vp_in_nI (by omega) (by omega)
  have in4 : vp_in (nI (5 * j) + 4) L := by
    rw [show (4 : Int32) = nI 4 from rfl, nI_add]
    exact vp_in_nI (by omega) (by omega)
  by_cases z : (xs (nI (5 * j) + 3).toNatClampNeg) = 0
  · refine lv_aload_n hx hb dL_law_1052 rfl (lv_at hl 1 rfl) ?_
    refine lv_aload_n hx hb dL_law_1053 rfl (lv_at hl 0 rfl) ?_
    refine lv_iload hx hb dL_law_1054 (lv_at hl 4 rfl) ?_
    refine lv_iconst (v := 1) hx hb dL_law_1056 (by decide) ?_
    refine lv_iadd hx hb dL_law_1057 ?_
    refine va_sld hx hb hX hbl hbA hS in1 dL_law_1058 ?_
    refine lv_aload_n hx hb dL_law_1059 rfl (lv_at hl 0 rfl) ?_
    refine lv_iload hx hb dL_law_1060 (lv_at hl 4 rfl) ?_
    refine lv_iconst (v := 2) hx hb dL_law_1062 (by decide) ?_
    refine lv_iadd hx hb dL_law_1063 ?_
    refine va_sld hx hb hX hbl hbA hS in2 dL_law_1064 ?_
    refine lv_aload_n hx hb dL_law_1065 rfl (lv_at hl 0 rfl) ?_
    refine lv_iload hx hb dL_law_1066 (lv_at hl 4 rfl) ?_
    refine lv_iconst (v := 3) hx hb dL_law_1068 (by decide) ?_
    refine lv_iadd hx hb dL_law_1069 ?_
    refine va_sld hx hb hX hbl hbA hS in3 dL_law_1070 ?_
    refine lv_if_eq (tgt := 1078) hx hb dL_law_1071 (by decide) (fun _ => ?_) (fun q => absurd z q)
    refine lv_iconst (v := 0) hx hb dL_law_1078 (by decide) ?_
    refine lv_aload_n hx hb dL_law_1079 rfl (lv_at hl 3 rfl) ?_
    obtain ⟨kk, bb, r, wb', wm', hI, ⟨rm, mc, ms, ⟨hrc, hrs, hmc, hms, hfr, hlo⟩, hBM⟩, ⟨rm2, ⟨h2c, h2s, h2f, h2l⟩, hMM⟩, hrb⟩ := step_contribution l hst D k (xs (nI (5 * j) + 1).toNatClampNeg) (xs (nI (5 * j) + 2).toNatClampNeg) 0 a0 m0 th wb wm hI0
    have hXPH := hXP.keep (H1 := H) (fun a h1 h2 => hS.2.1 a h1 h2)
    have hPc := vs_l hP
    have hDc := vd_l hD
    have hFc := vs_free hDc hS hA
    refine xc_iG (vx_runSW (As := [.ref a0, .int (xs (nI (5 * j) + 1).toNatClampNeg), .int (xs (nI (5 * j) + 2).toNatClampNeg), .int 0, .ref qo]) (rest := []) ⟨hx, hb, hml, hown, hts⟩ (hBM qo f H.size) (vx_cwSW 5 hts gL_law_L_contribution rfl hrc hrs (by decide +kernel) ⟨by show rm.frames + 1 ≤ 2048; omega, by show 8 + (6 + 11) + rm.locals ≤ 84000; omega⟩) ⟨pz_blind, pz_start hPc hK hDc hXPH hXN hNW hFc⟩ rfl rfl hl.1 rfl (lv_room (Nat.le_of_ble_eq_true rfl)) dL_law_1080 ⟨by show 200 + 8 * j + mc ≤ 601024; omega, by show 20000 + 429 * j + ms ≤ 7293034; omega⟩) hS hFc (fun u H1 locs hP1 hD1 hk1 hS => ?_)
    obtain ⟨hP, hD⟩ := vs_joinL hP hD hFc hk1 hP1 hD1
    clear hP1 hD1 hk1 hFc hPc hDc hXPH
    generalize H1 = H at hP hS ⊢
    refine lv_istore (lv' := [(5, .int kk), (0, .ref b), (1, .ref a0), (2, .ref m0), (3, .ref qo), (4, .int (nI (5 * j)))]) hx hb dL_law_1083 hl (by decide) rfl (fun ls hl => ?_)
    refine lv_aload_n hx hb dL_law_1085 rfl (lv_at hl 3 rfl) ?_
    refine lv_aload_n hx hb dL_law_1086 rfl (lv_at hl 1 rfl) ?_
    refine lv_iload hx hb dL_law_1087 (lv_at hl 5 rfl) ?_
    refine lv_iconst (v := 1) hx hb dL_law_1089 (by decide) ?_
    refine lv_iadd hx hb dL_law_1090 ?_
    refine va_sld hx hb hX hbl hbA hS in1 dL_law_1091 ?_
    refine lv_aload_n hx hb dL_law_1092 rfl (lv_at hl 1 rfl) ?_
    refine lv_iload hx hb dL_law_1093 (lv_at hl 5 rfl) ?_
    refine lv_iconst (v := 2) hx hb dL_law_1095 (by decide) ?_
    refine lv_iadd hx hb dL_law_1096 ?_
    refine va_sld hx hb hX hbl hbA hS in2 dL_law_1097 ?_
    refine lv_aload_n hx hb dL_law_1098 rfl (lv_at hl 1 rfl) ?_
    refine lv_iload hx hb dL_law_1099 (lv_at hl 5 rfl) ?_
    refine lv_iconst (v := 3) hx hb dL_law_1101 (by decide) ?_
    refine lv_iadd hx hb dL_law_1102 ?_
    refine va_sld hx hb hX hbl hbA hS in3 dL_law_1103 ?_
    refine lv_if_eq (tgt := 1111) hx hb dL_law_1104 (by decide) (fun _ => ?_) (fun q => absurd z q)
    refine lv_iconst (v := 0) hx hb dL_law_1111 (by decide) ?_
    obtain ⟨gs, hm0⟩ := INV_m hI0
    have hPc := vs_r hP
    have hDc := vd_r hD
    have hFc := vs_free hDc hS hA
    refine xc_l (va_runV (As := [.int (xs (nI (5 * j) + 1).toNatClampNeg), .int (xs (nI (5 * j) + 2).toNatClampNeg), .int 0]) (rest := []) ⟨hx, hb, hml, hown, hts⟩ (hMM H.size) (cwV 3 hts gL_law_X7_contribution rfl h2c h2s (by decide +kernel) ⟨by show rm2.frames + 1 ≤ 2048; omega, by show 8 + (4 + 11) + rm2.locals ≤ 84000; omega⟩) ⟨pw_blind, va_recv hK hPc (ci := 7) (q0 := 0) rfl hm0, pw_start hPc hK hDc⟩ rfl rfl hl.1 rfl (lv_room (Nat.le_of_ble_eq_true rfl)) dL_law_1112 ⟨by show 200 + 8 * j + mc + 0 ≤ 601024; omega, by show 20000 + 429 * j + ms + 0 ≤ 7293034; omega⟩) hS hFc (fun H1 locs hP1 hD1 hk1 hS => ?_)
    obtain ⟨hP, hD⟩ := vs_joinR hP hD hFc hk1 hP1 hD1
    clear hP1 hD1 hk1 hFc hPc hDc hm0
    generalize H1 = H at hP hS ⊢
    refine lv_lstore (lv' := [(6, .long bb), (5, .int kk), (0, .ref b), (1, .ref a0), (2, .ref m0), (3, .ref qo), (4, .int (nI (5 * j)))]) hx hb dL_law_1115 hl (by decide) rfl (fun ls hl => ?_)
    refine lv_aload_n hx hb dL_law_1117 rfl (lv_at hl 4 rfl) ?_
    obtain ⟨gs2, hm2⟩ := INV_m (hI u)
    have hPc := vs_r hP
    have hDc := vd_r hD
    have hFc := vs_free hDc hS hA
    refine xc_i (va_runV (As := []) (rest := []) ⟨hx, hb, hml, hown, hts⟩ (INV_thrown l D (hI u) H.size) (cwV 0 hts gL_law_X7_thrown rfl rfl rfl (by decide +kernel) ⟨Nat.le_of_ble_eq_true rfl, Nat.le_of_ble_eq_true rfl⟩) ⟨pw_blind, va_recv hK hPc (ci := 7) (q0 := 0) rfl hm2, pw_start hPc hK hDc⟩ rfl rfl hl.1 rfl (lv_room (Nat.le_of_ble_eq_true rfl)) dL_law_1118 ⟨by show 200 + 8 * j + mc + 0 + 0 ≤ 601024; omega, by show 20000 + 429 * j + ms + 0 + 0 ≤ 7293034; omega⟩) hS hFc (fun H1 locs hP1 hD1 hk1 hS => ?_)
    obtain ⟨hP, hD⟩ := vs_joinR hP hD hFc hk1 hP1 hD1
    clear hP1 hD1 hk1 hFc hPc hDc hm2
    generalize H1 = H at hP hS ⊢
    refine lv_iload hx hb dL_law_1121 (lv_at hl 1 rfl) ?_
    refine lv_icmp_eq (tgt := 1128) hx hb dL_law_1123 (by decide) (fun _ => ?_) (fun q => absurd rfl q)
    have fin : W p l e room_1 s m #[Value.ref b] below meth c H locs (200 + 8 * j + mc + 0 + 0) (20000 + 429 * j + ms + 0 + 0) Q (F0 m 1144 ls []) := by
      refine lv_goto (tgt := 1407) hx hb dL_law_1144 (by decide) ?_
      refine W.widen (k := 200 + 8 * (j + 1)) (n := 20000 + 429 * (j + 1)) (by omega) (by omega) ?_
      exact hn kk (wb' u) wm' _ H locs ls (hI u) hP hD hS (lv_sub hl [2, 3, 4, 5, 6] rfl)
    refine lv_iload hx hb dL_law_1128 (lv_at hl 1 rfl) ?_
    refine lv_if_ne (tgt := 1144) hx hb dL_law_1130 (by decide) (fun _ => fin) (fun q => ?_)
    refine lv_aload_n hx hb dL_law_1133 rfl (lv_at hl 5 rfl) ?_
    refine lv_iconst (v := 0) hx hb dL_law_1134 (by decide) ?_
    refine va_lald hx hb hK hP 0 1 rfl rfl (vp_in_nI (n := 0) (N := 1) (by decide) (by decide)) dL_law_1135 ?_
    refine lv_topl (fun y ey => ?_)
    have ey2 : y = bb := by
      rw [ey, if_pos q]
      exact (out0 f r _ (by decide)).trans (hrb q)
    subst ey2
    clear ey
    refine lv_lload hx hb dL_law_1136 (lv_at hl 0 rfl) ?_
    refine W.lcmp hx hb dL_law_1138 ?_
    exact lv_if_eq (tgt := 1144) hx hb dL_law_1139 (by decide) (fun _ => fin) (fun q => absurd (lg_self _) q)
  · refine lv_aload_n hx hb dL_law_1052 rfl (lv_at hl 1 rfl) ?_
    refine lv_aload_n hx hb dL_law_1053 rfl (lv_at hl 0 rfl) ?_
    refine lv_iload hx hb dL_law_1054 (lv_at hl 4 rfl) ?_
    refine lv_iconst (v := 1) hx hb dL_law_1056 (by decide) ?_
    refine lv_iadd hx hb dL_law_1057 ?_
    refine va_sld hx hb hX hbl hbA hS in1 dL_law_1058 ?_
    refine lv_aload_n hx hb dL_law_1059 rfl (lv_at hl 0 rfl) ?_
    refine lv_iload hx hb dL_law_1060 (lv_at hl 4 rfl) ?_
    refine lv_iconst (v := 2) hx hb dL_law_1062 (by decide) ?_
    refine lv_iadd hx hb dL_law_1063 ?_
    refine va_sld hx hb hX hbl hbA hS in2 dL_law_1064 ?_
    refine lv_aload_n hx hb dL_law_1065 rfl (lv_at hl 0 rfl) ?_
    refine lv_iload hx hb dL_law_1066 (lv_at hl 4 rfl) ?_
    refine lv_iconst (v := 3) hx hb dL_law_1068 (by decide) ?_
    refine lv_iadd hx hb dL_law_1069 ?_
    refine va_sld hx hb hX hbl hbA hS in3 dL_law_1070 ?_
    refine lv_if_eq (tgt := 1078) hx hb dL_law_1071 (by decide) (fun q => absurd q z) (fun _ => ?_)
    refine lv_iconst (v := 1) hx hb dL_law_1074 (by decide) ?_
    refine lv_goto (tgt := 1079) hx hb dL_law_1075 (by decide) ?_
    refine lv_aload_n hx hb dL_law_1079 rfl (lv_at hl 3 rfl) ?_
    obtain ⟨kk, bb, r, wb', wm', hI, ⟨rm, mc, ms, ⟨hrc, hrs, hmc, hms, hfr, hlo⟩, hBM⟩, ⟨rm2, ⟨h2c, h2s, h2f, h2l⟩, hMM⟩, hrb⟩ := step_contribution l hst D k (xs (nI (5 * j) + 1).toNatClampNeg) (xs (nI (5 * j) + 2).toNatClampNeg) 1 a0 m0 th wb wm hI0
    have hXPH := hXP.keep (H1 := H) (fun a h1 h2 => hS.2.1 a h1 h2)
    have hPc := vs_l hP
    have hDc := vd_l hD
    have hFc := vs_free hDc hS hA
    refine xc_iG (vx_runSW (As := [.ref a0, .int (xs (nI (5 * j) + 1).toNatClampNeg), .int (xs (nI (5 * j) + 2).toNatClampNeg), .int 1, .ref qo]) (rest := []) ⟨hx, hb, hml, hown, hts⟩ (hBM qo f H.size) (vx_cwSW 5 hts gL_law_L_contribution rfl hrc hrs (by decide +kernel) ⟨by show rm.frames + 1 ≤ 2048; omega, by show 8 + (6 + 11) + rm.locals ≤ 84000; omega⟩) ⟨pz_blind, pz_start hPc hK hDc hXPH hXN hNW hFc⟩ rfl rfl hl.1 rfl (lv_room (Nat.le_of_ble_eq_true rfl)) dL_law_1080 ⟨by show 200 + 8 * j + mc ≤ 601024; omega, by show 20000 + 429 * j + ms ≤ 7293034; omega⟩) hS hFc (fun u H1 locs hP1 hD1 hk1 hS => ?_)
    obtain ⟨hP, hD⟩ := vs_joinL hP hD hFc hk1 hP1 hD1
    clear hP1 hD1 hk1 hFc hPc hDc hXPH
    generalize H1 = H at hP hS ⊢
    refine lv_istore (lv' := [(5, .int kk), (0, .ref b), (1, .ref a0), (2, .ref m0), (3, .ref qo), (4, .int (nI (5 * j)))]) hx hb dL_law_1083 hl (by decide) rfl (fun ls hl => ?_)
    refine lv_aload_n hx hb dL_law_1085 rfl (lv_at hl 3 rfl) ?_
    refine lv_aload_n hx hb dL_law_1086 rfl (lv_at hl 1 rfl) ?_
    refine lv_iload hx hb dL_law_1087 (lv_at hl 5 rfl) ?_
    refine lv_iconst (v := 1) hx hb dL_law_1089 (by decide) ?_
    refine lv_iadd hx hb dL_law_1090 ?_
    refine va_sld hx hb hX hbl hbA hS in1 dL_law_1091 ?_
    refine lv_aload_n hx hb dL_law_1092 rfl (lv_at hl 1 rfl) ?_
    refine lv_iload hx hb dL_law_1093 (lv_at hl 5 rfl) ?_
    refine lv_iconst (v := 2) hx hb dL_law_1095 (by decide) ?_
    refine lv_iadd hx hb dL_law_1096 ?_
    refine va_sld hx hb hX hbl hbA hS in2 dL_law_1097 ?_
    refine lv_aload_n hx hb dL_law_1098 rfl (lv_at hl 1 rfl) ?_
    refine lv_iload hx hb dL_law_1099 (lv_at hl 5 rfl) ?_
    refine lv_iconst (v := 3) hx hb dL_law_1101 (by decide) ?_
    refine lv_iadd hx hb dL_law_1102 ?_
    refine va_sld hx hb hX hbl hbA hS in3 dL_law_1103 ?_
    refine lv_if_eq (tgt := 1111) hx hb dL_law_1104 (by decide) (fun q => absurd q z) (fun _ => ?_)
    refine lv_iconst (v := 1) hx hb dL_law_1107 (by decide) ?_
    refine lv_goto (tgt := 1112) hx hb dL_law_1108 (by decide) ?_
    obtain ⟨gs, hm0⟩ := INV_m hI0
    have hPc := vs_r hP
    have hDc := vd_r hD
    have hFc := vs_free hDc hS hA
    refine xc_l (va_runV (As := [.int (xs (nI (5 * j) + 1).toNatClampNeg), .int (xs (nI (5 * j) + 2).toNatClampNeg), .int 1]) (rest := []) ⟨hx, hb, hml, hown, hts⟩ (hMM H.size) (cwV 3 hts gL_law_X7_contribution rfl h2c h2s (by decide +kernel) ⟨by show rm2.frames + 1 ≤ 2048; omega, by show 8 + (4 + 11) + rm2.locals ≤ 84000; omega⟩) ⟨pw_blind, va_recv hK hPc (ci := 7) (q0 := 0) rfl hm0, pw_start hPc hK hDc⟩ rfl rfl hl.1 rfl (lv_room (Nat.le_of_ble_eq_true rfl)) dL_law_1112 ⟨by show 200 + 8 * j + mc + 0 ≤ 601024; omega, by show 20000 + 429 * j + ms + 0 ≤ 7293034; omega⟩) hS hFc (fun H1 locs hP1 hD1 hk1 hS => ?_)
    obtain ⟨hP, hD⟩ := vs_joinR hP hD hFc hk1 hP1 hD1
    clear hP1 hD1 hk1 hFc hPc hDc hm0
    generalize H1 = H at hP hS ⊢
    refine lv_lstore (lv' := [(6, .long bb), (5, .int kk), (0, .ref b), (1, .ref a0), (2, .ref m0), (3, .ref qo), (4, .int (nI (5 * j)))]) hx hb dL_law_1115 hl (by decide) rfl (fun ls hl => ?_)
    refine lv_aload_n hx hb dL_law_1117 rfl (lv_at hl 4 rfl) ?_
    obtain ⟨gs2, hm2⟩ := INV_m (hI u)
    have hPc := vs_r hP
    have hDc := vd_r hD
    have hFc := vs_free hDc hS hA
    refine xc_i (va_runV (As := []) (rest := []) ⟨hx, hb, hml, hown, hts⟩ (INV_thrown l D (hI u) H.size) (cwV 0 hts gL_law_X7_thrown rfl rfl rfl (by decide +kernel) ⟨Nat.le_of_ble_eq_true rfl, Nat.le_of_ble_eq_true rfl⟩) ⟨pw_blind, va_recv hK hPc (ci := 7) (q0 := 0) rfl hm2, pw_start hPc hK hDc⟩ rfl rfl hl.1 rfl (lv_room (Nat.le_of_ble_eq_true rfl)) dL_law_1118 ⟨by show 200 + 8 * j + mc + 0 + 0 ≤ 601024; omega, by show 20000 + 429 * j + ms + 0 + 0 ≤ 7293034; omega⟩) hS hFc (fun H1 locs hP1 hD1 hk1 hS => ?_)
    obtain ⟨hP, hD⟩ := vs_joinR hP hD hFc hk1 hP1 hD1
    clear hP1 hD1 hk1 hFc hPc hDc hm2
    generalize H1 = H at hP hS ⊢
    refine lv_iload hx hb dL_law_1121 (lv_at hl 1 rfl) ?_
    refine lv_icmp_eq (tgt := 1128) hx hb dL_law_1123 (by decide) (fun _ => ?_) (fun q => absurd rfl q)
    have fin : W p l e room_1 s m #[Value.ref b] below meth c H locs (200 + 8 * j + mc + 0 + 0) (20000 + 429 * j + ms + 0 + 0) Q (F0 m 1144 ls []) := by
      refine lv_goto (tgt := 1407) hx hb dL_law_1144 (by decide) ?_
      refine W.widen (k := 200 + 8 * (j + 1)) (n := 20000 + 429 * (j + 1)) (by omega) (by omega) ?_
      exact hn kk (wb' u) wm' _ H locs ls (hI u) hP hD hS (lv_sub hl [2, 3, 4, 5, 6] rfl)
    refine lv_iload hx hb dL_law_1128 (lv_at hl 1 rfl) ?_
    refine lv_if_ne (tgt := 1144) hx hb dL_law_1130 (by decide) (fun _ => fin) (fun q => ?_)
    refine lv_aload_n hx hb dL_law_1133 rfl (lv_at hl 5 rfl) ?_
    refine lv_iconst (v := 0) hx hb dL_law_1134 (by decide) ?_
    refine va_lald hx hb hK hP 0 1 rfl rfl (vp_in_nI (n := 0) (N := 1) (by decide) (by decide)) dL_law_1135 ?_
    refine lv_topl (fun y ey => ?_)
    have ey2 : y = bb := by
      rw [ey, if_pos q]
      exact (out0 f r _ (by decide)).trans (hrb q)
    subst ey2
    clear ey
    refine lv_lload hx hb dL_law_1136 (lv_at hl 0 rfl) ?_
    refine W.lcmp hx hb dL_law_1138 ?_
    exact lv_if_eq (tgt := 1144) hx hb dL_law_1139 (by decide) (fun _ => fin) (fun q => absurd (lg_self _) q)
set_option maxHeartbeats 4000000 in
set_option maxRecDepth 100000 in
theorem case_ranked {p : Program} {l : Launch} {e : Env} {s : State} {m : MethodId} {below : List Frame} {meth : Method} {c : Code} {D : va_G} {k : Nat → ClassId} {b L : Nat} {xs : Nat → Int32} {a0 m0 qo : Nat} (C : lwCtx p l e s m below meth c D k b L xs) {Q : State → Prop} {j : Nat} (hj : 5 * j + 5 ≤ L) (hn : lwAt p l e s m below meth c D k b a0 m0 qo Q 1407 j (j + 1)) : lwAt p l e s m below meth c D k b a0 m0 qo Q 1147 j j := by
  obtain ⟨hx, hb, hml, hown, hts, hX, hbl, hK, hXP, hXN, hNW, hL, hst⟩ := C
  intro th wb wm f H locs ls hI0 hP hD hS hl
  have hA : ∀ q : Nat, s.heap.size ≤ q → lwA s q := fun _ h => h
  have hbA : ¬ lwA s b := Nat.not_le.mpr hbl
  have in1 : vp_in (nI (5 * j) + 1) L := by
    rw [nI_1]
    exact vp_in_nI (by omega) (by omega)
  have in2 : vp_in (nI (5 * j) + 2) L := by
    rw [show (2 : Int32) = nI 2 from rfl, nI_add]
    exact vp_in_nI (by omega) (by omega)
  have in3 : vp_in (nI (5 * j) + 3) L := by
    rw [show (3 : Int32) = nI 3 from rfl, nI_add]
    exact vp_in_nI (by omega) (by omega)
  have in4 : vp_in (nI (5 * j) + 4) L := by
    rw [show (4 : Int32) = nI 4 from rfl, nI_add]
    exact vp_in_nI (by omega) (by omega)
  refine lv_aload_n hx hb dL_law_1147 rfl (lv_at hl 1 rfl) ?_
  refine lv_aload_n hx hb dL_law_1148 rfl (lv_at hl 0 rfl) ?_
  refine lv_iload hx hb dL_law_1149 (lv_at hl 4 rfl) ?_
  refine lv_iconst (v := 1) hx hb dL_law_1151 (by decide) ?_
  refine lv_iadd hx hb dL_law_1152 ?_
  refine va_sld hx hb hX hbl hbA hS in1 dL_law_1153 ?_
  refine lv_aload_n hx hb dL_law_1154 rfl (lv_at hl 0 rfl) ?_
  refine lv_iload hx hb dL_law_1155 (lv_at hl 4 rfl) ?_
  refine lv_iconst (v := 2) hx hb dL_law_1157 (by decide) ?_
  refine lv_iadd hx hb dL_law_1158 ?_
  refine va_sld hx hb hX hbl hbA hS in2 dL_law_1159 ?_
  refine lv_aload_n hx hb dL_law_1160 rfl (lv_at hl 3 rfl) ?_
  obtain ⟨kk, bb, r, wb', wm', hI, ⟨rm, mc, ms, ⟨hrc, hrs, hmc, hms, hfr, hlo⟩, hBM⟩, ⟨rm2, ⟨h2c, h2s, h2f, h2l⟩, hMM⟩, hrb⟩ := step_ranked l hst D k (xs (nI (5 * j) + 1).toNatClampNeg) (xs (nI (5 * j) + 2).toNatClampNeg) a0 m0 th wb wm hI0
  have hXPH := hXP.keep (H1 := H) (fun a h1 h2 => hS.2.1 a h1 h2)
  have hPc := vs_l hP
  have hDc := vd_l hD
  have hFc := vs_free hDc hS hA
  refine xc_iG (vx_runSW (As := [.ref a0, .int (xs (nI (5 * j) + 1).toNatClampNeg), .int (xs (nI (5 * j) + 2).toNatClampNeg), .ref qo]) (rest := []) ⟨hx, hb, hml, hown, hts⟩ (hBM qo f H.size) (vx_cwSW 4 hts gL_law_L_ranked rfl hrc hrs (by decide +kernel) ⟨by show rm.frames + 1 ≤ 2048; omega, by show 8 + (5 + 11) + rm.locals ≤ 84000; omega⟩) ⟨pz_blind, pz_start hPc hK hDc hXPH hXN hNW hFc⟩ rfl rfl hl.1 rfl (lv_room (Nat.le_of_ble_eq_true rfl)) dL_law_1161 ⟨by show 200 + 8 * j + mc ≤ 601024; omega, by show 20000 + 429 * j + ms ≤ 7293034; omega⟩) hS hFc (fun u H1 locs hP1 hD1 hk1 hS => ?_)
  obtain ⟨hP, hD⟩ := vs_joinL hP hD hFc hk1 hP1 hD1
  clear hP1 hD1 hk1 hFc hPc hDc hXPH
  generalize H1 = H at hP hS ⊢
  refine lv_istore (lv' := [(5, .int kk), (0, .ref b), (1, .ref a0), (2, .ref m0), (3, .ref qo), (4, .int (nI (5 * j)))]) hx hb dL_law_1164 hl (by decide) rfl (fun ls hl => ?_)
  refine lv_aload_n hx hb dL_law_1166 rfl (lv_at hl 3 rfl) ?_
  refine lv_aload_n hx hb dL_law_1167 rfl (lv_at hl 1 rfl) ?_
  refine lv_iload hx hb dL_law_1168 (lv_at hl 5 rfl) ?_
  refine lv_iconst (v := 1) hx hb dL_law_1170 (by decide) ?_
  refine lv_iadd hx hb dL_law_1171 ?_
  refine va_sld hx hb hX hbl hbA hS in1 dL_law_1172 ?_
  refine lv_aload_n hx hb dL_law_1173 rfl (lv_at hl 1 rfl) ?_
  refine lv_iload hx hb dL_law_1174 (lv_at hl 5 rfl) ?_
  refine lv_iconst (v := 2) hx hb dL_law_1176 (by decide) ?_
  refine lv_iadd hx hb dL_law_1177 ?_
  refine va_sld hx hb hX hbl hbA hS in2 dL_law_1178 ?_
  obtain ⟨gs, hm0⟩ := INV_m hI0
  have hPc := vs_r hP
  have hDc := vd_r hD
  have hFc := vs_free hDc hS hA
  refine xc_i (va_runV (As := [.int (xs (nI (5 * j) + 1).toNatClampNeg), .int (xs (nI (5 * j) + 2).toNatClampNeg)]) (rest := []) ⟨hx, hb, hml, hown, hts⟩ (hMM H.size) (cwV 2 hts gL_law_X7_ranked rfl h2c h2s (by decide +kernel) ⟨by show rm2.frames + 1 ≤ 2048; omega, by show 8 + (6 + 11) + rm2.locals ≤ 84000; omega⟩) ⟨pw_blind, va_recv hK hPc (ci := 7) (q0 := 0) rfl hm0, pw_start hPc hK hDc⟩ rfl rfl hl.1 rfl (lv_room (Nat.le_of_ble_eq_true rfl)) dL_law_1179 ⟨by show 200 + 8 * j + mc + 0 ≤ 601024; omega, by show 20000 + 429 * j + ms + 0 ≤ 7293034; omega⟩) hS hFc (fun H1 locs hP1 hD1 hk1 hS => ?_)
  obtain ⟨hP, hD⟩ := vs_joinR hP hD hFc hk1 hP1 hD1
  clear hP1 hD1 hk1 hFc hPc hDc hm0
  generalize H1 = H at hP hS ⊢
  refine lv_istore (lv' := [(6, .int bb), (5, .int kk), (0, .ref b), (1, .ref a0), (2, .ref m0), (3, .ref qo), (4, .int (nI (5 * j)))]) hx hb dL_law_1182 hl (by decide) rfl (fun ls hl => ?_)
  refine lv_aload_n hx hb dL_law_1184 rfl (lv_at hl 4 rfl) ?_
  obtain ⟨gs2, hm2⟩ := INV_m (hI u)
  have hPc := vs_r hP
  have hDc := vd_r hD
  have hFc := vs_free hDc hS hA
  refine xc_i (va_runV (As := []) (rest := []) ⟨hx, hb, hml, hown, hts⟩ (INV_thrown l D (hI u) H.size) (cwV 0 hts gL_law_X7_thrown rfl rfl rfl (by decide +kernel) ⟨Nat.le_of_ble_eq_true rfl, Nat.le_of_ble_eq_true rfl⟩) ⟨pw_blind, va_recv hK hPc (ci := 7) (q0 := 0) rfl hm2, pw_start hPc hK hDc⟩ rfl rfl hl.1 rfl (lv_room (Nat.le_of_ble_eq_true rfl)) dL_law_1185 ⟨by show 200 + 8 * j + mc + 0 + 0 ≤ 601024; omega, by show 20000 + 429 * j + ms + 0 + 0 ≤ 7293034; omega⟩) hS hFc (fun H1 locs hP1 hD1 hk1 hS => ?_)
  obtain ⟨hP, hD⟩ := vs_joinR hP hD hFc hk1 hP1 hD1
  clear hP1 hD1 hk1 hFc hPc hDc hm2
  generalize H1 = H at hP hS ⊢
  refine lv_iload hx hb dL_law_1188 (lv_at hl 1 rfl) ?_
  refine lv_icmp_eq (tgt := 1195) hx hb dL_law_1190 (by decide) (fun _ => ?_) (fun q => absurd rfl q)
  have fin : W p l e room_1 s m #[Value.ref b] below meth c H locs (200 + 8 * j + mc + 0 + 0) (20000 + 429 * j + ms + 0 + 0) Q (F0 m 1212 ls []) := by
    refine lv_goto (tgt := 1407) hx hb dL_law_1212 (by decide) ?_
    refine W.widen (k := 200 + 8 * (j + 1)) (n := 20000 + 429 * (j + 1)) (by omega) (by omega) ?_
    exact hn kk (wb' u) wm' _ H locs ls (hI u) hP hD hS (lv_sub hl [2, 3, 4, 5, 6] rfl)
  refine lv_iload hx hb dL_law_1195 (lv_at hl 1 rfl) ?_
  refine lv_if_ne (tgt := 1212) hx hb dL_law_1197 (by decide) (fun _ => fin) (fun q => ?_)
  refine lv_aload_n hx hb dL_law_1200 rfl (lv_at hl 5 rfl) ?_
  refine lv_iconst (v := 0) hx hb dL_law_1201 (by decide) ?_
  refine va_lald hx hb hK hP 0 1 rfl rfl (vp_in_nI (n := 0) (N := 1) (by decide) (by decide)) dL_law_1202 ?_
  refine lv_topl (fun y ey => ?_)
  have ey2 : y = bb.toInt64 := by
    rw [ey, if_pos q]
    exact (out0 f r _ (by decide)).trans (hrb q)
  subst ey2
  clear ey
  refine lv_iload hx hb dL_law_1203 (lv_at hl 0 rfl) ?_
  refine lv_i2l hx hb dL_law_1205 rfl ?_
  refine W.lcmp hx hb dL_law_1206 ?_
  exact lv_if_eq (tgt := 1212) hx hb dL_law_1207 (by decide) (fun _ => fin) (fun q => absurd (lg_self _) q)
set_option maxHeartbeats 4000000 in
set_option maxRecDepth 100000 in
theorem case_table {p : Program} {l : Launch} {e : Env} {s : State} {m : MethodId} {below : List Frame} {meth : Method} {c : Code} {D : va_G} {k : Nat → ClassId} {b L : Nat} {xs : Nat → Int32} {a0 m0 qo : Nat} (C : lwCtx p l e s m below meth c D k b L xs) {Q : State → Prop} {j : Nat} (hj : 5 * j + 5 ≤ L) (hn : lwAt p l e s m below meth c D k b a0 m0 qo Q 1407 j (j + 1)) : lwAt p l e s m below meth c D k b a0 m0 qo Q 1215 j j := by
  obtain ⟨hx, hb, hml, hown, hts, hX, hbl, hK, hXP, hXN, hNW, hL, hst⟩ := C
  intro th wb wm f H locs ls hI0 hP hD hS hl
  have hA : ∀ q : Nat, s.heap.size ≤ q → lwA s q := fun _ h => h
  have hbA : ¬ lwA s b := Nat.not_le.mpr hbl
  have in1 : vp_in (nI (5 * j) + 1) L := by
    rw [nI_1]
    exact vp_in_nI (by omega) (by omega)
  have in2 : vp_in (nI (5 * j) + 2) L := by
    rw [show (2 : Int32) = nI 2 from rfl, nI_add]
    exact vp_in_nI (by omega) (by omega)
  have in3 : vp_in (nI (5 * j) + 3) L := by
    rw [show (3 : Int32) = nI 3 from rfl, nI_add]
    exact vp_in_nI (by omega) (by omega)
  have in4 : vp_in (nI (5 * j) + 4) L := by
    rw [show (4 : Int32) = nI 4 from rfl, nI_add]
    exact vp_in_nI (by omega) (by omega)
  refine lv_aload_n hx hb dL_law_1215 rfl (lv_at hl 1 rfl) ?_
  refine lv_aload_n hx hb dL_law_1216 rfl (lv_at hl 0 rfl) ?_
  refine lv_iload hx hb dL_law_1217 (lv_at hl 4 rfl) ?_
  refine lv_iconst (v := 1) hx hb dL_law_1219 (by decide) ?_
  refine lv_iadd hx hb dL_law_1220 ?_
  refine va_sld hx hb hX hbl hbA hS in1 dL_law_1221 ?_
  refine lv_aload_n hx hb dL_law_1222 rfl (lv_at hl 0 rfl) ?_
  refine lv_iload hx hb dL_law_1223 (lv_at hl 4 rfl) ?_
  refine lv_iconst (v := 2) hx hb dL_law_1225 (by decide) ?_
  refine lv_iadd hx hb dL_law_1226 ?_
  refine va_sld hx hb hX hbl hbA hS in2 dL_law_1227 ?_
  refine lv_aload_n hx hb dL_law_1228 rfl (lv_at hl 3 rfl) ?_
  obtain ⟨kk, bb, r, wb', wm', hI, ⟨rm, mc, ms, ⟨hrc, hrs, hmc, hms, hfr, hlo⟩, hBM⟩, ⟨rm2, ⟨h2c, h2s, h2f, h2l⟩, hMM⟩, hrb⟩ := step_table l hst D k (xs (nI (5 * j) + 1).toNatClampNeg) (xs (nI (5 * j) + 2).toNatClampNeg) a0 m0 th wb wm hI0
  have hXPH := hXP.keep (H1 := H) (fun a h1 h2 => hS.2.1 a h1 h2)
  have hPc := vs_l hP
  have hDc := vd_l hD
  have hFc := vs_free hDc hS hA
  refine xc_iG (vx_runSW (As := [.ref a0, .int (xs (nI (5 * j) + 1).toNatClampNeg), .int (xs (nI (5 * j) + 2).toNatClampNeg), .ref qo]) (rest := []) ⟨hx, hb, hml, hown, hts⟩ (hBM qo f H.size) (vx_cwSW 4 hts gL_law_L_table rfl hrc hrs (by decide +kernel) ⟨by show rm.frames + 1 ≤ 2048; omega, by show 8 + (5 + 11) + rm.locals ≤ 84000; omega⟩) ⟨pz_blind, pz_start hPc hK hDc hXPH hXN hNW hFc⟩ rfl rfl hl.1 rfl (lv_room (Nat.le_of_ble_eq_true rfl)) dL_law_1229 ⟨by show 200 + 8 * j + mc ≤ 601024; omega, by show 20000 + 429 * j + ms ≤ 7293034; omega⟩) hS hFc (fun u H1 locs hP1 hD1 hk1 hS => ?_)
  obtain ⟨hP, hD⟩ := vs_joinL hP hD hFc hk1 hP1 hD1
  clear hP1 hD1 hk1 hFc hPc hDc hXPH
  generalize H1 = H at hP hS ⊢
  refine lv_istore (lv' := [(5, .int kk), (0, .ref b), (1, .ref a0), (2, .ref m0), (3, .ref qo), (4, .int (nI (5 * j)))]) hx hb dL_law_1232 hl (by decide) rfl (fun ls hl => ?_)
  refine lv_aload_n hx hb dL_law_1234 rfl (lv_at hl 3 rfl) ?_
  refine lv_aload_n hx hb dL_law_1235 rfl (lv_at hl 1 rfl) ?_
  refine lv_iload hx hb dL_law_1236 (lv_at hl 5 rfl) ?_
  refine lv_iconst (v := 1) hx hb dL_law_1238 (by decide) ?_
  refine lv_iadd hx hb dL_law_1239 ?_
  refine va_sld hx hb hX hbl hbA hS in1 dL_law_1240 ?_
  refine lv_aload_n hx hb dL_law_1241 rfl (lv_at hl 1 rfl) ?_
  refine lv_iload hx hb dL_law_1242 (lv_at hl 5 rfl) ?_
  refine lv_iconst (v := 2) hx hb dL_law_1244 (by decide) ?_
  refine lv_iadd hx hb dL_law_1245 ?_
  refine va_sld hx hb hX hbl hbA hS in2 dL_law_1246 ?_
  obtain ⟨gs, hm0⟩ := INV_m hI0
  have hPc := vs_r hP
  have hDc := vd_r hD
  have hFc := vs_free hDc hS hA
  refine xc_i (va_runV (As := [.int (xs (nI (5 * j) + 1).toNatClampNeg), .int (xs (nI (5 * j) + 2).toNatClampNeg)]) (rest := []) ⟨hx, hb, hml, hown, hts⟩ (hMM H.size) (cwV 2 hts gL_law_X7_table rfl h2c h2s (by decide +kernel) ⟨by show rm2.frames + 1 ≤ 2048; omega, by show 8 + (6 + 11) + rm2.locals ≤ 84000; omega⟩) ⟨pw_blind, va_recv hK hPc (ci := 7) (q0 := 0) rfl hm0, pw_start hPc hK hDc⟩ rfl rfl hl.1 rfl (lv_room (Nat.le_of_ble_eq_true rfl)) dL_law_1247 ⟨by show 200 + 8 * j + mc + 0 ≤ 601024; omega, by show 20000 + 429 * j + ms + 0 ≤ 7293034; omega⟩) hS hFc (fun H1 locs hP1 hD1 hk1 hS => ?_)
  obtain ⟨hP, hD⟩ := vs_joinR hP hD hFc hk1 hP1 hD1
  clear hP1 hD1 hk1 hFc hPc hDc hm0
  generalize H1 = H at hP hS ⊢
  refine lv_istore (lv' := [(6, .int bb), (5, .int kk), (0, .ref b), (1, .ref a0), (2, .ref m0), (3, .ref qo), (4, .int (nI (5 * j)))]) hx hb dL_law_1250 hl (by decide) rfl (fun ls hl => ?_)
  refine lv_aload_n hx hb dL_law_1252 rfl (lv_at hl 4 rfl) ?_
  obtain ⟨gs2, hm2⟩ := INV_m (hI u)
  have hPc := vs_r hP
  have hDc := vd_r hD
  have hFc := vs_free hDc hS hA
  refine xc_i (va_runV (As := []) (rest := []) ⟨hx, hb, hml, hown, hts⟩ (INV_thrown l D (hI u) H.size) (cwV 0 hts gL_law_X7_thrown rfl rfl rfl (by decide +kernel) ⟨Nat.le_of_ble_eq_true rfl, Nat.le_of_ble_eq_true rfl⟩) ⟨pw_blind, va_recv hK hPc (ci := 7) (q0 := 0) rfl hm2, pw_start hPc hK hDc⟩ rfl rfl hl.1 rfl (lv_room (Nat.le_of_ble_eq_true rfl)) dL_law_1253 ⟨by show 200 + 8 * j + mc + 0 + 0 ≤ 601024; omega, by show 20000 + 429 * j + ms + 0 + 0 ≤ 7293034; omega⟩) hS hFc (fun H1 locs hP1 hD1 hk1 hS => ?_)
  obtain ⟨hP, hD⟩ := vs_joinR hP hD hFc hk1 hP1 hD1
  clear hP1 hD1 hk1 hFc hPc hDc hm2
  generalize H1 = H at hP hS ⊢
  refine lv_iload hx hb dL_law_1256 (lv_at hl 1 rfl) ?_
  refine lv_icmp_eq (tgt := 1263) hx hb dL_law_1258 (by decide) (fun _ => ?_) (fun q => absurd rfl q)
  have fin : W p l e room_1 s m #[Value.ref b] below meth c H locs (200 + 8 * j + mc + 0 + 0) (20000 + 429 * j + ms + 0 + 0) Q (F0 m 1280 ls []) := by
    refine lv_goto (tgt := 1407) hx hb dL_law_1280 (by decide) ?_
    refine W.widen (k := 200 + 8 * (j + 1)) (n := 20000 + 429 * (j + 1)) (by omega) (by omega) ?_
    exact hn kk (wb' u) wm' _ H locs ls (hI u) hP hD hS (lv_sub hl [2, 3, 4, 5, 6] rfl)
  refine lv_iload hx hb dL_law_1263 (lv_at hl 1 rfl) ?_
  refine lv_if_ne (tgt := 1280) hx hb dL_law_1265 (by decide) (fun _ => fin) (fun q => ?_)
  refine lv_aload_n hx hb dL_law_1268 rfl (lv_at hl 5 rfl) ?_
  refine lv_iconst (v := 0) hx hb dL_law_1269 (by decide) ?_
  refine va_lald hx hb hK hP 0 1 rfl rfl (vp_in_nI (n := 0) (N := 1) (by decide) (by decide)) dL_law_1270 ?_
  refine lv_topl (fun y ey => ?_)
  have ey2 : y = bb.toInt64 := by
    rw [ey, if_pos q]
    exact (out0 f r _ (by decide)).trans (hrb q)
  subst ey2
  clear ey
  refine lv_iload hx hb dL_law_1271 (lv_at hl 0 rfl) ?_
  refine lv_i2l hx hb dL_law_1273 rfl ?_
  refine W.lcmp hx hb dL_law_1274 ?_
  exact lv_if_eq (tgt := 1280) hx hb dL_law_1275 (by decide) (fun _ => fin) (fun q => absurd (lg_self _) q)
set_option maxHeartbeats 4000000 in
set_option maxRecDepth 100000 in
theorem case_seed {p : Program} {l : Launch} {e : Env} {s : State} {m : MethodId} {below : List Frame} {meth : Method} {c : Code} {D : va_G} {k : Nat → ClassId} {b L : Nat} {xs : Nat → Int32} {a0 m0 qo : Nat} (C : lwCtx p l e s m below meth c D k b L xs) {Q : State → Prop} {j : Nat} (hj : 5 * j + 5 ≤ L) (hn : lwAt p l e s m below meth c D k b a0 m0 qo Q 1407 j (j + 1)) : lwAt p l e s m below meth c D k b a0 m0 qo Q 1283 j j := by
  obtain ⟨hx, hb, hml, hown, hts, hX, hbl, hK, hXP, hXN, hNW, hL, hst⟩ := C
  intro th wb wm f H locs ls hI0 hP hD hS hl
  have hA : ∀ q : Nat, s.heap.size ≤ q → lwA s q := fun _ h => h
  have hbA : ¬ lwA s b := Nat.not_le.mpr hbl
  have in1 : vp_in (nI (5 * j) + 1) L := by
    rw [nI_1]
    exact vp_in_nI (by omega) (by omega)
  have in2 : vp_in (nI (5 * j) + 2) L := by
    rw [show (2 : Int32) = nI 2 from rfl, nI_add]
    exact vp_in_nI (by omega) (by omega)
  have in3 : vp_in (nI (5 * j) + 3) L := by
    rw [show (3 : Int32) = nI 3 from rfl, nI_add]
    exact vp_in_nI (by omega) (by omega)
  have in4 : vp_in (nI (5 * j) + 4) L := by
    rw [show (4 : Int32) = nI 4 from rfl, nI_add]
    exact vp_in_nI (by omega) (by omega)
  refine lv_aload_n hx hb dL_law_1283 rfl (lv_at hl 1 rfl) ?_
  refine lv_aload_n hx hb dL_law_1284 rfl (lv_at hl 0 rfl) ?_
  refine lv_iload hx hb dL_law_1285 (lv_at hl 4 rfl) ?_
  refine lv_iconst (v := 1) hx hb dL_law_1287 (by decide) ?_
  refine lv_iadd hx hb dL_law_1288 ?_
  refine va_sld hx hb hX hbl hbA hS in1 dL_law_1289 ?_
  refine lv_aload_n hx hb dL_law_1290 rfl (lv_at hl 3 rfl) ?_
  obtain ⟨kk, bb, r, wb', wm', hI, ⟨rm, mc, ms, ⟨hrc, hrs, hmc, hms, hfr, hlo⟩, hBM⟩, ⟨rm2, ⟨h2c, h2s, h2f, h2l⟩, hMM⟩, hrb⟩ := step_seed l hst D k (xs (nI (5 * j) + 1).toNatClampNeg) a0 m0 th wb wm hI0
  have hXPH := hXP.keep (H1 := H) (fun a h1 h2 => hS.2.1 a h1 h2)
  have hPc := vs_l hP
  have hDc := vd_l hD
  have hFc := vs_free hDc hS hA
  refine xc_iG (vx_runSW (As := [.ref a0, .int (xs (nI (5 * j) + 1).toNatClampNeg), .ref qo]) (rest := []) ⟨hx, hb, hml, hown, hts⟩ (hBM qo f H.size) (vx_cwSW 3 hts gL_law_L_seed rfl hrc hrs (by decide +kernel) ⟨by show rm.frames + 1 ≤ 2048; omega, by show 8 + (4 + 11) + rm.locals ≤ 84000; omega⟩) ⟨pz_blind, pz_start hPc hK hDc hXPH hXN hNW hFc⟩ rfl rfl hl.1 rfl (lv_room (Nat.le_of_ble_eq_true rfl)) dL_law_1291 ⟨by show 200 + 8 * j + mc ≤ 601024; omega, by show 20000 + 429 * j + ms ≤ 7293034; omega⟩) hS hFc (fun u H1 locs hP1 hD1 hk1 hS => ?_)
  obtain ⟨hP, hD⟩ := vs_joinL hP hD hFc hk1 hP1 hD1
  clear hP1 hD1 hk1 hFc hPc hDc hXPH
  generalize H1 = H at hP hS ⊢
  refine lv_istore (lv' := [(5, .int kk), (0, .ref b), (1, .ref a0), (2, .ref m0), (3, .ref qo), (4, .int (nI (5 * j)))]) hx hb dL_law_1294 hl (by decide) rfl (fun ls hl => ?_)
  refine lv_aload_n hx hb dL_law_1296 rfl (lv_at hl 3 rfl) ?_
  refine lv_aload_n hx hb dL_law_1297 rfl (lv_at hl 1 rfl) ?_
  refine lv_iload hx hb dL_law_1298 (lv_at hl 5 rfl) ?_
  refine lv_iconst (v := 1) hx hb dL_law_1300 (by decide) ?_
  refine lv_iadd hx hb dL_law_1301 ?_
  refine va_sld hx hb hX hbl hbA hS in1 dL_law_1302 ?_
  obtain ⟨gs, hm0⟩ := INV_m hI0
  have hPc := vs_r hP
  have hDc := vd_r hD
  have hFc := vs_free hDc hS hA
  refine xc_i (va_runV (As := [.int (xs (nI (5 * j) + 1).toNatClampNeg)]) (rest := []) ⟨hx, hb, hml, hown, hts⟩ (hMM H.size) (cwV 1 hts gL_law_X7_seed rfl h2c h2s (by decide +kernel) ⟨by show rm2.frames + 1 ≤ 2048; omega, by show 8 + (3 + 11) + rm2.locals ≤ 84000; omega⟩) ⟨pw_blind, va_recv hK hPc (ci := 7) (q0 := 0) rfl hm0, pw_start hPc hK hDc⟩ rfl rfl hl.1 rfl (lv_room (Nat.le_of_ble_eq_true rfl)) dL_law_1303 ⟨by show 200 + 8 * j + mc + 0 ≤ 601024; omega, by show 20000 + 429 * j + ms + 0 ≤ 7293034; omega⟩) hS hFc (fun H1 locs hP1 hD1 hk1 hS => ?_)
  obtain ⟨hP, hD⟩ := vs_joinR hP hD hFc hk1 hP1 hD1
  clear hP1 hD1 hk1 hFc hPc hDc hm0
  generalize H1 = H at hP hS ⊢
  refine lv_istore (lv' := [(6, .int bb), (5, .int kk), (0, .ref b), (1, .ref a0), (2, .ref m0), (3, .ref qo), (4, .int (nI (5 * j)))]) hx hb dL_law_1306 hl (by decide) rfl (fun ls hl => ?_)
  refine lv_aload_n hx hb dL_law_1308 rfl (lv_at hl 4 rfl) ?_
  obtain ⟨gs2, hm2⟩ := INV_m (hI u)
  have hPc := vs_r hP
  have hDc := vd_r hD
  have hFc := vs_free hDc hS hA
  refine xc_i (va_runV (As := []) (rest := []) ⟨hx, hb, hml, hown, hts⟩ (INV_thrown l D (hI u) H.size) (cwV 0 hts gL_law_X7_thrown rfl rfl rfl (by decide +kernel) ⟨Nat.le_of_ble_eq_true rfl, Nat.le_of_ble_eq_true rfl⟩) ⟨pw_blind, va_recv hK hPc (ci := 7) (q0 := 0) rfl hm2, pw_start hPc hK hDc⟩ rfl rfl hl.1 rfl (lv_room (Nat.le_of_ble_eq_true rfl)) dL_law_1309 ⟨by show 200 + 8 * j + mc + 0 + 0 ≤ 601024; omega, by show 20000 + 429 * j + ms + 0 + 0 ≤ 7293034; omega⟩) hS hFc (fun H1 locs hP1 hD1 hk1 hS => ?_)
  obtain ⟨hP, hD⟩ := vs_joinR hP hD hFc hk1 hP1 hD1
  clear hP1 hD1 hk1 hFc hPc hDc hm2
  generalize H1 = H at hP hS ⊢
  refine lv_iload hx hb dL_law_1312 (lv_at hl 1 rfl) ?_
  refine lv_icmp_eq (tgt := 1319) hx hb dL_law_1314 (by decide) (fun _ => ?_) (fun q => absurd rfl q)
  have fin : W p l e room_1 s m #[Value.ref b] below meth c H locs (200 + 8 * j + mc + 0 + 0) (20000 + 429 * j + ms + 0 + 0) Q (F0 m 1336 ls []) := by
    refine lv_goto (tgt := 1407) hx hb dL_law_1336 (by decide) ?_
    refine W.widen (k := 200 + 8 * (j + 1)) (n := 20000 + 429 * (j + 1)) (by omega) (by omega) ?_
    exact hn kk (wb' u) wm' _ H locs ls (hI u) hP hD hS (lv_sub hl [2, 3, 4, 5, 6] rfl)
  refine lv_iload hx hb dL_law_1319 (lv_at hl 1 rfl) ?_
  refine lv_if_ne (tgt := 1336) hx hb dL_law_1321 (by decide) (fun _ => fin) (fun q => ?_)
  refine lv_aload_n hx hb dL_law_1324 rfl (lv_at hl 5 rfl) ?_
  refine lv_iconst (v := 0) hx hb dL_law_1325 (by decide) ?_
  refine va_lald hx hb hK hP 0 1 rfl rfl (vp_in_nI (n := 0) (N := 1) (by decide) (by decide)) dL_law_1326 ?_
  refine lv_topl (fun y ey => ?_)
  have ey2 : y = bb.toInt64 := by
    rw [ey, if_pos q]
    exact (out0 f r _ (by decide)).trans (hrb q)
  subst ey2
  clear ey
  refine lv_iload hx hb dL_law_1327 (lv_at hl 0 rfl) ?_
  refine lv_i2l hx hb dL_law_1329 rfl ?_
  refine W.lcmp hx hb dL_law_1330 ?_
  exact lv_if_eq (tgt := 1336) hx hb dL_law_1331 (by decide) (fun _ => fin) (fun q => absurd (lg_self _) q)
set_option maxHeartbeats 4000000 in
set_option maxRecDepth 100000 in
theorem case_draw {p : Program} {l : Launch} {e : Env} {s : State} {m : MethodId} {below : List Frame} {meth : Method} {c : Code} {D : va_G} {k : Nat → ClassId} {b L : Nat} {xs : Nat → Int32} {a0 m0 qo : Nat} (C : lwCtx p l e s m below meth c D k b L xs) {Q : State → Prop} {j : Nat} (hj : 5 * j + 5 ≤ L) (hn : lwAt p l e s m below meth c D k b a0 m0 qo Q 1407 j (j + 1)) : lwAt p l e s m below meth c D k b a0 m0 qo Q 1339 j j := by
  obtain ⟨hx, hb, hml, hown, hts, hX, hbl, hK, hXP, hXN, hNW, hL, hst⟩ := C
  intro th wb wm f H locs ls hI0 hP hD hS hl
  have hA : ∀ q : Nat, s.heap.size ≤ q → lwA s q := fun _ h => h
  have hbA : ¬ lwA s b := Nat.not_le.mpr hbl
  have in1 : vp_in (nI (5 * j) + 1) L := by
    rw [nI_1]
    exact vp_in_nI (by omega) (by omega)
  have in2 : vp_in (nI (5 * j) + 2) L := by
    rw [show (2 : Int32) = nI 2 from rfl, nI_add]
    exact vp_in_nI (by omega) (by omega)
  have in3 : vp_in (nI (5 * j) + 3) L := by
    rw [show (3 : Int32) = nI 3 from rfl, nI_add]
    exact vp_in_nI (by omega) (by omega)
  have in4 : vp_in (nI (5 * j) + 4) L := by
    rw [show (4 : Int32) = nI 4 from rfl, nI_add]
    exact vp_in_nI (by omega) (by omega)
  refine lv_aload_n hx hb dL_law_1339 rfl (lv_at hl 1 rfl) ?_
  refine lv_aload_n hx hb dL_law_1340 rfl (lv_at hl 0 rfl) ?_
  refine lv_iload hx hb dL_law_1341 (lv_at hl 4 rfl) ?_
  refine lv_iconst (v := 1) hx hb dL_law_1343 (by decide) ?_
  refine lv_iadd hx hb dL_law_1344 ?_
  refine va_sld hx hb hX hbl hbA hS in1 dL_law_1345 ?_
  refine lv_aload_n hx hb dL_law_1346 rfl (lv_at hl 0 rfl) ?_
  refine lv_iload hx hb dL_law_1347 (lv_at hl 4 rfl) ?_
  refine lv_iconst (v := 2) hx hb dL_law_1349 (by decide) ?_
  refine lv_iadd hx hb dL_law_1350 ?_
  refine va_sld hx hb hX hbl hbA hS in2 dL_law_1351 ?_
  refine lv_aload_n hx hb dL_law_1352 rfl (lv_at hl 3 rfl) ?_
  obtain ⟨kk, bb, r, wb', wm', hI, ⟨rm, mc, ms, ⟨hrc, hrs, hmc, hms, hfr, hlo⟩, hBM⟩, ⟨rm2, ⟨h2c, h2s, h2f, h2l⟩, hMM⟩, hrb⟩ := step_draw l hst D k (xs (nI (5 * j) + 1).toNatClampNeg) (xs (nI (5 * j) + 2).toNatClampNeg) a0 m0 th wb wm hI0
  have hXPH := hXP.keep (H1 := H) (fun a h1 h2 => hS.2.1 a h1 h2)
  have hPc := vs_l hP
  have hDc := vd_l hD
  have hFc := vs_free hDc hS hA
  refine xc_iG (vx_runSW (As := [.ref a0, .int (xs (nI (5 * j) + 1).toNatClampNeg), .int (xs (nI (5 * j) + 2).toNatClampNeg), .ref qo]) (rest := []) ⟨hx, hb, hml, hown, hts⟩ (hBM qo f H.size) (vx_cwSW 4 hts gL_law_L_draw rfl hrc hrs (by decide +kernel) ⟨by show rm.frames + 1 ≤ 2048; omega, by show 8 + (5 + 11) + rm.locals ≤ 84000; omega⟩) ⟨pz_blind, pz_start hPc hK hDc hXPH hXN hNW hFc⟩ rfl rfl hl.1 rfl (lv_room (Nat.le_of_ble_eq_true rfl)) dL_law_1353 ⟨by show 200 + 8 * j + mc ≤ 601024; omega, by show 20000 + 429 * j + ms ≤ 7293034; omega⟩) hS hFc (fun u H1 locs hP1 hD1 hk1 hS => ?_)
  obtain ⟨hP, hD⟩ := vs_joinL hP hD hFc hk1 hP1 hD1
  clear hP1 hD1 hk1 hFc hPc hDc hXPH
  generalize H1 = H at hP hS ⊢
  refine lv_istore (lv' := [(5, .int kk), (0, .ref b), (1, .ref a0), (2, .ref m0), (3, .ref qo), (4, .int (nI (5 * j)))]) hx hb dL_law_1356 hl (by decide) rfl (fun ls hl => ?_)
  refine lv_aload_n hx hb dL_law_1358 rfl (lv_at hl 3 rfl) ?_
  refine lv_aload_n hx hb dL_law_1359 rfl (lv_at hl 1 rfl) ?_
  refine lv_iload hx hb dL_law_1360 (lv_at hl 5 rfl) ?_
  refine lv_iconst (v := 1) hx hb dL_law_1362 (by decide) ?_
  refine lv_iadd hx hb dL_law_1363 ?_
  refine va_sld hx hb hX hbl hbA hS in1 dL_law_1364 ?_
  refine lv_aload_n hx hb dL_law_1365 rfl (lv_at hl 1 rfl) ?_
  refine lv_iload hx hb dL_law_1366 (lv_at hl 5 rfl) ?_
  refine lv_iconst (v := 2) hx hb dL_law_1368 (by decide) ?_
  refine lv_iadd hx hb dL_law_1369 ?_
  refine va_sld hx hb hX hbl hbA hS in2 dL_law_1370 ?_
  obtain ⟨gs, hm0⟩ := INV_m hI0
  have hPc := vs_r hP
  have hDc := vd_r hD
  have hFc := vs_free hDc hS hA
  refine xc_i (va_runV (As := [.int (xs (nI (5 * j) + 1).toNatClampNeg), .int (xs (nI (5 * j) + 2).toNatClampNeg)]) (rest := []) ⟨hx, hb, hml, hown, hts⟩ (hMM H.size) (cwV 2 hts gL_law_X7_draw rfl h2c h2s (by decide +kernel) ⟨by show rm2.frames + 1 ≤ 2048; omega, by show 8 + (11 + 11) + rm2.locals ≤ 84000; omega⟩) ⟨pw_blind, va_recv hK hPc (ci := 7) (q0 := 0) rfl hm0, pw_start hPc hK hDc⟩ rfl rfl hl.1 rfl (lv_room (Nat.le_of_ble_eq_true rfl)) dL_law_1371 ⟨by show 200 + 8 * j + mc + 0 ≤ 601024; omega, by show 20000 + 429 * j + ms + 0 ≤ 7293034; omega⟩) hS hFc (fun H1 locs hP1 hD1 hk1 hS => ?_)
  obtain ⟨hP, hD⟩ := vs_joinR hP hD hFc hk1 hP1 hD1
  clear hP1 hD1 hk1 hFc hPc hDc hm0
  generalize H1 = H at hP hS ⊢
  refine lv_istore (lv' := [(6, .int bb), (5, .int kk), (0, .ref b), (1, .ref a0), (2, .ref m0), (3, .ref qo), (4, .int (nI (5 * j)))]) hx hb dL_law_1374 hl (by decide) rfl (fun ls hl => ?_)
  refine lv_aload_n hx hb dL_law_1376 rfl (lv_at hl 4 rfl) ?_
  obtain ⟨gs2, hm2⟩ := INV_m (hI u)
  have hPc := vs_r hP
  have hDc := vd_r hD
  have hFc := vs_free hDc hS hA
  refine xc_i (va_runV (As := []) (rest := []) ⟨hx, hb, hml, hown, hts⟩ (INV_thrown l D (hI u) H.size) (cwV 0 hts gL_law_X7_thrown rfl rfl rfl (by decide +kernel) ⟨Nat.le_of_ble_eq_true rfl, Nat.le_of_ble_eq_true rfl⟩) ⟨pw_blind, va_recv hK hPc (ci := 7) (q0 := 0) rfl hm2, pw_start hPc hK hDc⟩ rfl rfl hl.1 rfl (lv_room (Nat.le_of_ble_eq_true rfl)) dL_law_1377 ⟨by show 200 + 8 * j + mc + 0 + 0 ≤ 601024; omega, by show 20000 + 429 * j + ms + 0 + 0 ≤ 7293034; omega⟩) hS hFc (fun H1 locs hP1 hD1 hk1 hS => ?_)
  obtain ⟨hP, hD⟩ := vs_joinR hP hD hFc hk1 hP1 hD1
  clear hP1 hD1 hk1 hFc hPc hDc hm2
  generalize H1 = H at hP hS ⊢
  refine lv_iload hx hb dL_law_1380 (lv_at hl 1 rfl) ?_
  refine lv_icmp_eq (tgt := 1387) hx hb dL_law_1382 (by decide) (fun _ => ?_) (fun q => absurd rfl q)
  have fin : W p l e room_1 s m #[Value.ref b] below meth c H locs (200 + 8 * j + mc + 0 + 0) (20000 + 429 * j + ms + 0 + 0) Q (F0 m 1404 ls []) := by
    refine lv_goto (tgt := 1407) hx hb dL_law_1404 (by decide) ?_
    refine W.widen (k := 200 + 8 * (j + 1)) (n := 20000 + 429 * (j + 1)) (by omega) (by omega) ?_
    exact hn kk (wb' u) wm' _ H locs ls (hI u) hP hD hS (lv_sub hl [2, 3, 4, 5, 6] rfl)
  refine lv_iload hx hb dL_law_1387 (lv_at hl 1 rfl) ?_
  refine lv_if_ne (tgt := 1404) hx hb dL_law_1389 (by decide) (fun _ => fin) (fun q => ?_)
  refine lv_aload_n hx hb dL_law_1392 rfl (lv_at hl 5 rfl) ?_
  refine lv_iconst (v := 0) hx hb dL_law_1393 (by decide) ?_
  refine va_lald hx hb hK hP 0 1 rfl rfl (vp_in_nI (n := 0) (N := 1) (by decide) (by decide)) dL_law_1394 ?_
  refine lv_topl (fun y ey => ?_)
  have ey2 : y = bb.toInt64 := by
    rw [ey, if_pos q]
    exact (out0 f r _ (by decide)).trans (hrb q)
  subst ey2
  clear ey
  refine lv_iload hx hb dL_law_1395 (lv_at hl 0 rfl) ?_
  refine lv_i2l hx hb dL_law_1397 rfl ?_
  refine W.lcmp hx hb dL_law_1398 ?_
  exact lv_if_eq (tgt := 1404) hx hb dL_law_1399 (by decide) (fun _ => fin) (fun q => absurd (lg_self _) q)
