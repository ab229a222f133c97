def fX6_contribution (v1 : Int32) (v2 : Int32) (v3 : Int32) (Uformulas : Nat → Option Nat) (Iestimates : Nat → Int32) (Ivariances : Nat → Int32) (Icounts : Nat → Int32) (Icovariances : Nat → Nat → Int32) (Fkinds : Nat → Int32) (Flefts : Nat → Int32) (Frights : Nat → Int32) (Fvalues : Nat → Int64) (Fslopes : Nat → Int64) (Fsize : Int32) (Froot : Int32) (Bslopes : Nat → Int64) (Bcontributions : Nat → Int64) (Bvariance : Int64) (BdegreesSum : Int64) (pF : Nat) : Option (Int64 × (Nat → Int64) × (Nat → Int64) × (Nat → Int64) × (Nat → Int64) × Int64 × Int64) := gF Uformulas v1 pF (bnd0 (fX6_checkInput v2) (bnd6 (fX0_reckon Bslopes Bcontributions Bvariance BdegreesSum Fkinds Flefts Frights Fvalues Fslopes Fsize Froot Iestimates Ivariances Icounts Icovariances) (fun slopes_3 contributions_3 variance_3 degreesSum_3 Fvalues_3 Fslopes_3 => (if v3 = 0 then gi v2 6 (some (contributions_3 v2.toNatClampNeg, Fvalues_3, Fslopes_3, slopes_3, contributions_3, variance_3, degreesSum_3)) else bnd1 (fX0_shareOf v2 contributions_3 variance_3) (fun r6 => some (r6, Fvalues_3, Fslopes_3, slopes_3, contributions_3, variance_3, degreesSum_3))))))
abbrev rmX6_contribution : Room := { frames := 5, cells := 0, slots := 0, locals := 119 }

set_option maxHeartbeats 40000000 in
set_option maxRecDepth 100000 in
theorem met_X6_contribution (l : Launch) (D : va_G) (k : Nat → ClassId) (xL xS xV xC : Nat) (aU : Nat → Nat) (aI : Nat → Nat) (aF : Nat → Nat) (aB : Nat → Nat) (sz : Nat) (Uformulas : Nat → Option Nat) (Udrawn : Nat → Int32) (Umodels : Int32) (Iestimates : Nat → Int32) (Ivariances : Nat → Int32) (Isorts : Nat → Int32) (Iwidths : Nat → Int32) (Icounts : Nat → Int32) (Ireadings : Nat → Nat → Int32) (Ifirsts : Nat → Int32) (Iseconds : Nat → Int32) (Icovariances : Nat → Nat → Int32) (Fkinds : Nat → Int32) (Flefts : Nat → Int32) (Frights : Nat → Int32) (Fplaces : Nat → Int32) (Fvalues : Nat → Int64) (Fslopes : Nat → Int64) (Fexponents : Nat → Int32) (Fsize : Int32) (Froot : Int32) (Bslopes : Nat → Int64) (Bcontributions : Nat → Int64) (Bvariance : Int64) (BdegreesSum : Int64) (v1 : Int32) (v2 : Int32) (v3 : Int32) (r : Int64) (RFvalues : Nat → Int64) (RFslopes : Nat → Int64) (RBslopes : Nat → Int64) (RBcontributions : Nat → Int64) (RBvariance : Int64) (RBdegreesSum : Int64) (h : fX6_contribution v1 v2 v3 Uformulas Iestimates Ivariances Icounts Icovariances Fkinds Flefts Frights Fvalues Fslopes Fsize Froot Bslopes Bcontributions Bvariance BdegreesSum (aF 0) = some (r, RFvalues, RFslopes, RBslopes, RBcontributions, RBvariance, RBdegreesSum)) : Met l yX6_contribution wsX6_contribution rmX6_contribution (va_Pc [.ref (aU 0), .int v1, .int v2, .int v3] (PreW D k ((wU k aU (aI 0) xL xS (aB 0) xV xC Uformulas Udrawn Umodels) ++ (wI k aI Iestimates Ivariances Isorts Iwidths Icounts Ireadings Ifirsts Iseconds Icovariances) ++ (wF k aF Fkinds Flefts Frights Fplaces Fvalues Fslopes Fexponents Fsize Froot) ++ (wB k aB Bslopes Bcontributions Bvariance BdegreesSum)) sz)) (va_Ql (fun r9 (_ : Unit) => r9 = r) (fun _ t => PostW D k (va_A ((wU k aU (aI 0) xL xS (aB 0) xV xC Uformulas Udrawn Umodels) ++ (wI k aI Iestimates Ivariances Isorts Iwidths Icounts Ireadings Ifirsts Iseconds Icovariances) ++ (wF k aF Fkinds Flefts Frights Fplaces Fvalues Fslopes Fexponents Fsize Froot) ++ (wB k aB Bslopes Bcontributions Bvariance BdegreesSum)) sz) ((wU k aU (aI 0) xL xS (aB 0) xV xC Uformulas Udrawn Umodels) ++ (wI k aI Iestimates Ivariances Isorts Iwidths Icounts Ireadings Ifirsts Iseconds Icovariances) ++ (wF k aF Fkinds Flefts Frights Fplaces RFvalues RFslopes Fexponents Fsize Froot) ++ (wB k aB RBslopes RBcontributions RBvariance RBdegreesSum)) t) (va_A ((wU k aU (aI 0) xL xS (aB 0) xV xC Uformulas Udrawn Umodels) ++ (wI k aI Iestimates Ivariances Isorts Iwidths Icounts Ireadings Ifirsts Iseconds Icovariances) ++ (wF k aF Fkinds Flefts Frights Fplaces Fvalues Fslopes Fexponents Fsize Froot) ++ (wB k aB Bslopes Bcontributions Bvariance BdegreesSum)) sz)) 0 0 (va_A ((wU k aU (aI 0) xL xS (aB 0) xV xC Uformulas Udrawn Umodels) ++ (wI k aI Iestimates Ivariances Isorts Iwidths Icounts Ireadings Ifirsts Iseconds Icovariances) ++ (wF k aF Fkinds Flefts Frights Fplaces Fvalues Fslopes Fexponents Fsize Froot) ++ (wB k aB Bslopes Bcontributions Bvariance BdegreesSum)) sz) := by
  refine Met.ofW (cc := cX6_contribution) (maxL := 5) (ret := (some .long)) (by decide) rfl ?_
  intro p e s m args below meth c s₁ B hml hv
  obtain ⟨hav, hsz, hP, hK, hD0⟩ := hv
  have hx := B.exec
  have hb := B.bytes
  have hr := B.returns
  have hts := atoms_spec (ws := wsX6_contribution) B.pre
  have hown : s.vm.findClass RX6 = some m.cls := findClass_of_methodNamed B.named
  have hlocks := B.notSynchronized
  subst hsz
  have hD := hD0.self (sz := s.heap.size)
  clear hD0
  generalize hAe : va_A ((wU k aU (aI 0) xL xS (aB 0) xV xC Uformulas Udrawn Umodels) ++ (wI k aI Iestimates Ivariances Isorts Iwidths Icounts Ireadings Ifirsts Iseconds Icovariances) ++ (wF k aF Fkinds Flefts Frights Fplaces Fvalues Fslopes Fexponents Fsize Froot) ++ (wB k aB Bslopes Bcontributions Bvariance BdegreesSum)) s.heap.size = A at hD ⊢
  have hA : ∀ q : Nat, s.heap.size ≤ q → A q := fun q h => by rw [← hAe]; exact Or.inr h
  have hS : va_S A s.heap s.heap [] := va_S.rf
  have hl := lv_entry ([.ref (aU 0), .int v1, .int v2, .int v3]) (n := 5) (Nat.le_of_ble_eq_true rfl)
  rw [show entryFrame m args 5 = entryFrame m ([.ref (aU 0), .int v1, .int v2, .int v3] : List Value).toArray 5 from by rw [hav], lg_entry_eq]
  generalize (lg_sl ([.ref (aU 0), .int v1, .int v2, .int v3]) ++ List.replicate (5 - (lg_sl ([.ref (aU 0), .int v1, .int v2, .int v3])).length) Slot.unset).toArray = ls at hl ⊢
  replace hl : lv_has ls 5 [(0, .ref (aU 0)), (1, .int v1), (2, .int v2), (3, .int v3)] := hl
  have f10 := hts (.fieldLink RX6 10 "UncertainBook" "inputs" "LUncertainBook$Inputs;") (by decide +kernel)
  have f41 := hts (.fieldLink RX6 41 "UncertainBook" "figures" "LUncertainBook$Budget;") (by decide +kernel)
  have f208 := hts (.fieldLink RX6 208 "UncertainBook$Budget" "contributions" "[J") (by decide +kernel)
  have iX0 : ∀ w ∈ u_ws RX0 TX0 4, w ∈ wsX6_contribution := by decide +kernel
  have iX6 : ∀ w ∈ u_ws RX6 TX6 9, w ∈ wsX6_contribution := by decide +kernel
  refine w_q (fun Q hQ => ?_)
  unfold fX6_contribution at h
  show W p l e rmX6_contribution s m args below meth c s.heap [] 0 0 Q (F0 m 0 ls [])
  suffices main : ∀ (H : Heap) (locs : List Loc) (ls : Array Slot), va_P D vwCl ((wU k aU (aI 0) xL xS (aB 0) xV xC Uformulas Udrawn Umodels) ++ (wI k aI Iestimates Ivariances Isorts Iwidths Icounts Ireadings Ifirsts Iseconds Icovariances) ++ (wF k aF Fkinds Flefts Frights Fplaces Fvalues Fslopes Fexponents Fsize Froot) ++ (wB k aB Bslopes Bcontributions Bvariance BdegreesSum)) H → va_D A ((wU k aU (aI 0) xL xS (aB 0) xV xC Uformulas Udrawn Umodels) ++ (wI k aI Iestimates Ivariances Isorts Iwidths Icounts Ireadings Ifirsts Iseconds Icovariances) ++ (wF k aF Fkinds Flefts Frights Fplaces Fvalues Fslopes Fexponents Fsize Froot) ++ (wB k aB Bslopes Bcontributions Bvariance BdegreesSum)) → va_S A s.heap H locs → lv_has ls 5 [(0, .ref (aU 0)), (1, .int v1), (2, .int v2), (3, .int v3)] → W p l e rmX6_contribution s m args below meth c H locs 0 0 Q (F0 m 0 ls []) from main _ _ _ hP hD hS hl
  clear hP hD hS hl ls hAe
  intro H locs ls hP hD hS hl
  refine lv_aload_n hx hb dX6_contribution_0 rfl (lv_at hl 0 rfl) ?_
  refine lv_iload_n hx hb dX6_contribution_1 rfl (lv_at hl 1 rfl) ?_
  obtain ⟨hg1, h⟩ := gF_inv h
  have hPc := hP.sub (ws' := wU k aU (aI 0) xL xS (aB 0) xV xC Uformulas Udrawn Umodels) [0, 1, 2] rfl
  have hDc := hD.sub (ws' := wU k aU (aI 0) xL xS (aB 0) xV xC Uformulas Udrawn Umodels) [0, 1, 2] rfl rfl
  have hFc := va_free (wc := wU k aU (aI 0) xL xS (aB 0) xV xC Uformulas Udrawn Umodels) hD hS hA [0, 1, 2] rfl
  refine xc_r (va_runV (As := [.int v1]) (rest := []) ⟨hx, hb, hml, hown, hts⟩ (met_X6_formulaOf l D k aU (aI 0) xL xS (aB 0) xV xC H.size Uformulas Udrawn Umodels v1 _ hg1) (cwV 1 hts gX6_contribution_X6_formulaOf rfl rfl rfl (by decide +kernel) ⟨Nat.le_of_ble_eq_true rfl, Nat.le_of_ble_eq_true rfl⟩) ⟨pw_blind, va_recv hK hPc (ci := 6) (q0 := 0) rfl rfl, pw_start hPc hK hDc⟩ rfl rfl hl.1 rfl (lv_room (Nat.le_of_ble_eq_true rfl)) dX6_contribution_2 ⟨Nat.zero_le _, Nat.zero_le _⟩) hS hFc (fun H1 locs hP1 hD1 hk1 hS => ?_)
  obtain ⟨hP, hD⟩ := vk hP hD [0, 1, 2] rfl hk1 hP1
  clear hP1 hD1 hk1 hFc
  generalize H1 = H at hP hS ⊢
  refine lv_astore (lv' := [(4, .ref (aF 0)), (0, .ref (aU 0)), (1, .int v1), (2, .int v2), (3, .int v3)]) hx hb dX6_contribution_5 hl (by decide) rfl (fun ls hl => ?_)
  refine lv_iload_n hx hb dX6_contribution_7 rfl (lv_at hl 3 rfl) ?_
  obtain ⟨hc2, h⟩ := bnd0_inv h
  have hPc := hP.sub (ws' := ([] : va_W)) [] rfl
  have hDc := hD.sub (ws' := ([] : va_W)) [] rfl rfl
  have hFc := va_free (wc := ([] : va_W)) hD hS hA [] rfl
  refine xc_v (va_runS (As := [.int v2]) (rest := []) ⟨hx, hb, hml, hown, hts⟩ (met_X6_checkInput l D k  H.size v2 hc2) (va_cwS 1 hts gX6_contribution_X6_checkInput rfl rfl rfl (by decide +kernel) ⟨Nat.le_of_ble_eq_true rfl, Nat.le_of_ble_eq_true rfl⟩) ⟨pw_blind, pw_start hPc hK hDc⟩ rfl rfl hl.1 rfl (lv_room (Nat.le_of_ble_eq_true rfl)) dX6_contribution_8 ⟨Nat.zero_le _, Nat.zero_le _⟩) hS hFc (fun H1 locs hP1 hD1 hk1 hS => ?_)
  obtain ⟨hP, hD⟩ := vk hP hD [] rfl hk1 hP1
  clear hP1 hD1 hk1 hFc
  generalize H1 = H at hP hS ⊢
  refine lv_aload_n hx hb dX6_contribution_11 rfl (lv_at hl 1 rfl) ?_
  refine va_get (D := D) (ci := 6) (v := .ref (aB 0)) (C := RX6) (T := TX6) (N := 9) hx hb hts iX6 hown hK hP 0 rfl rfl 5 (by decide) f41 (fun _ h9 => h9) rfl dX6_contribution_12 ?_
  refine lv_aload hx hb dX6_contribution_15 (lv_at hl 0 rfl) ?_
  refine lv_aload_n hx hb dX6_contribution_17 rfl (lv_at hl 1 rfl) ?_
  refine va_get (D := D) (ci := 6) (v := .ref (aI 0)) (C := RX6) (T := TX6) (N := 9) hx hb hts iX6 hown hK hP 0 rfl rfl 0 (by decide) f10 (fun _ h9 => h9) rfl dX6_contribution_18 ?_
  obtain ⟨slopes_3, contributions_3, variance_3, degreesSum_3, Fvalues_3, Fslopes_3, hc3, h⟩ := bnd6_inv h
  have hPc := hP.sub (ws' := ((wB k aB Bslopes Bcontributions Bvariance BdegreesSum) ++ (wF k aF Fkinds Flefts Frights Fplaces Fvalues Fslopes Fexponents Fsize Froot) ++ (wI k aI Iestimates Ivariances Isorts Iwidths Icounts Ireadings Ifirsts Iseconds Icovariances))) [33, 34, 35, 25, 26, 27, 28, 29, 30, 31, 32, 3, 4, 5, 6, 7, 8, 9, 10, 11, 12, 13, 14, 15, 16, 17, 18, 19, 20, 21, 22, 23, 24] rfl
  have hDc := hD.sub (ws' := ((wB k aB Bslopes Bcontributions Bvariance BdegreesSum) ++ (wF k aF Fkinds Flefts Frights Fplaces Fvalues Fslopes Fexponents Fsize Froot) ++ (wI k aI Iestimates Ivariances Isorts Iwidths Icounts Ireadings Ifirsts Iseconds Icovariances))) [33, 34, 35, 25, 26, 27, 28, 29, 30, 31, 32, 3, 4, 5, 6, 7, 8, 9, 10, 11, 12, 13, 14, 15, 16, 17, 18, 19, 20, 21, 22, 23, 24] rfl rfl
  have hFc := va_free (wc := ((wB k aB Bslopes Bcontributions Bvariance BdegreesSum) ++ (wF k aF Fkinds Flefts Frights Fplaces Fvalues Fslopes Fexponents Fsize Froot) ++ (wI k aI Iestimates Ivariances Isorts Iwidths Icounts Ireadings Ifirsts Iseconds Icovariances))) hD hS hA [33, 34, 35, 25, 26, 27, 28, 29, 30, 31, 32, 3, 4, 5, 6, 7, 8, 9, 10, 11, 12, 13, 14, 15, 16, 17, 18, 19, 20, 21, 22, 23, 24] rfl
  refine xc_v (va_runV (As := [.ref (aF 0), .ref (aI 0)]) (rest := []) ⟨hx, hb, hml, hown, hts⟩ (met_X0_reckon l D k  aB aF aI H.size Bslopes Bcontributions Bvariance BdegreesSum Fkinds Flefts Frights Fplaces Fvalues Fslopes Fexponents Fsize Froot Iestimates Ivariances Isorts Iwidths Icounts Ireadings Ifirsts Iseconds Icovariances slopes_3 contributions_3 variance_3 degreesSum_3 Fvalues_3 Fslopes_3 hc3) (cwV 2 hts gX6_contribution_X0_reckon rfl rfl rfl (by decide +kernel) ⟨Nat.le_of_ble_eq_true rfl, Nat.le_of_ble_eq_true rfl⟩) ⟨pw_blind, va_recv hK hPc (ci := 0) (q0 := 0) rfl rfl, pw_start hPc hK hDc⟩ rfl rfl hl.1 rfl (lv_room (Nat.le_of_ble_eq_true rfl)) dX6_contribution_21 ⟨Nat.zero_le _, Nat.zero_le _⟩) hS hFc (fun H1 locs hP1 hD1 hk1 hS => ?_)
  obtain ⟨hP, hD⟩ := vj (ws' := ((wU k aU (aI 0) xL xS (aB 0) xV xC Uformulas Udrawn Umodels) ++ (wI k aI Iestimates Ivariances Isorts Iwidths Icounts Ireadings Ifirsts Iseconds Icovariances) ++ (wF k aF Fkinds Flefts Frights Fplaces Fvalues_3 Fslopes_3 Fexponents Fsize Froot) ++ (wB k aB slopes_3 contributions_3 variance_3 degreesSum_3))) (w1 := ((wB k aB slopes_3 contributions_3 variance_3 degreesSum_3) ++ (wF k aF Fkinds Flefts Frights Fplaces Fvalues_3 Fslopes_3 Fexponents Fsize Froot) ++ (wI k aI Iestimates Ivariances Isorts Iwidths Icounts Ireadings Ifirsts Iseconds Icovariances))) hP hD [33, 34, 35, 25, 26, 27, 28, 29, 30, 31, 32, 3, 4, 5, 6, 7, 8, 9, 10, 11, 12, 13, 14, 15, 16, 17, 18, 19, 20, 21, 22, 23, 24] [0, 1, 2] [0, 1, 2, 14, 15, 16, 17, 18, 19, 20, 21, 22, 23, 24, 25, 26, 27, 28, 29, 30, 31, 32, 33, 34, 35, 6, 7, 8, 9, 10, 11, 12, 13, 3, 4, 5] rfl rfl rfl rfl rfl hk1 hFc hP1 hD1
  clear hP1 hD1 hk1 hFc
  generalize H1 = H at hP hS ⊢
  refine lv_iload_n hx hb dX6_contribution_24 rfl (lv_at hl 4 rfl) ?_
  refine lv_if_eq (tgt := 39) hx hb dX6_contribution_25 (by decide) (fun c4 => ?_) (fun c4 => ?_)
  · replace h := sf_t c4 h
    refine lv_aload_n hx hb dX6_contribution_39 rfl (lv_at hl 1 rfl) ?_
    refine va_get (D := D) (ci := 6) (v := .ref (aB 0)) (C := RX6) (T := TX6) (N := 9) hx hb hts iX6 hown hK hP 0 rfl rfl 5 (by decide) f41 (fun _ h9 => h9) rfl dX6_contribution_40 ?_
    refine va_get (D := D) (ci := 0) (v := .ref (aB 2)) (C := RX0) (T := TX0) (N := 4) hx hb hts iX0 hown hK hP 33 rfl rfl 1 (by decide) f208 (fun _ h9 => h9) rfl dX6_contribution_43 ?_
    refine lv_iload_n hx hb dX6_contribution_46 rfl (lv_at hl 3 rfl) ?_
    obtain ⟨hi5, h⟩ := gi_inv h
    refine va_lald hx hb hK hP 35 1 rfl rfl hi5 dX6_contribution_47 ?_
    have hP9 := hP
    have hD9 := hD
    have hS9 := hS
    subst hQ
    cases h
    exact W.lret hx hb hr (fun t ht hW => ⟨⟨_, (), rfl, rfl, by rw [ht]; exact hP9, va_K.moved hW.alike hK, hD9⟩, hS9.F ht⟩) hS9.2.2 dX6_contribution_48
  · replace h := sf_f c4 h
    refine lv_aload_n hx hb dX6_contribution_28 rfl (lv_at hl 1 rfl) ?_
    refine va_get (D := D) (ci := 6) (v := .ref (aB 0)) (C := RX6) (T := TX6) (N := 9) hx hb hts iX6 hown hK hP 0 rfl rfl 5 (by decide) f41 (fun _ h9 => h9) rfl dX6_contribution_29 ?_
    refine lv_iload_n hx hb dX6_contribution_32 rfl (lv_at hl 3 rfl) ?_
    obtain ⟨r6, hc6, h⟩ := bnd1_inv h
    have hPc := hP.sub (ws' := (wB k aB slopes_3 contributions_3 variance_3 degreesSum_3)) [33, 34, 35] rfl
    have hDc := hD.sub (ws' := (wB k aB slopes_3 contributions_3 variance_3 degreesSum_3)) [33, 34, 35] rfl rfl
    have hFc := va_free (wc := (wB k aB slopes_3 contributions_3 variance_3 degreesSum_3)) hD hS hA [33, 34, 35] rfl
    refine xc_l (va_runV (As := [.int v2]) (rest := []) ⟨hx, hb, hml, hown, hts⟩ (met_X0_shareOf l D k  aB H.size slopes_3 contributions_3 variance_3 degreesSum_3 v2 r6 hc6) (cwV 1 hts gX6_contribution_X0_shareOf rfl rfl rfl (by decide +kernel) ⟨Nat.le_of_ble_eq_true rfl, Nat.le_of_ble_eq_true rfl⟩) ⟨pw_blind, va_recv hK hPc (ci := 0) (q0 := 0) rfl rfl, pw_start hPc hK hDc⟩ rfl rfl hl.1 rfl (lv_room (Nat.le_of_ble_eq_true rfl)) dX6_contribution_33 ⟨Nat.zero_le _, Nat.zero_le _⟩) hS hFc (fun H1 locs hP1 hD1 hk1 hS => ?_)
    obtain ⟨hP, hD⟩ := vk hP hD [33, 34, 35] rfl hk1 hP1
    clear hP1 hD1 hk1 hFc
    generalize H1 = H at hP hS ⊢
    refine lv_goto (tgt := 48) hx hb dX6_contribution_36 (by decide) ?_
    have hP9 := hP
    have hD9 := hD
    have hS9 := hS
    subst hQ
    cases h
    exact W.lret hx hb hr (fun t ht hW => ⟨⟨_, (), rfl, rfl, by rw [ht]; exact hP9, va_K.moved hW.alike hK, hD9⟩, hS9.F ht⟩) hS9.2.2 dX6_contribution_48
def fX6_ranked (v1 : Int32) (v2 : Int32) (Uformulas : Nat → Option Nat) (Iestimates : Nat → Int32) (Ivariances : Nat → Int32) (Icounts : Nat → Int32) (Icovariances : Nat → Nat → Int32) (Fkinds : Nat → Int32) (Flefts : Nat → Int32) (Frights : Nat → Int32) (Fvalues : Nat → Int64) (Fslopes : Nat → Int64) (Fsize : Int32) (Froot : Int32) (Bslopes : Nat → Int64) (Bcontributions : Nat → Int64) (Bvariance : Int64) (BdegreesSum : Int64) (pF : Nat) : Option (Int32 × (Nat → Int64) × (Nat → Int64) × (Nat → Int64) × (Nat → Int64) × Int64 × Int64) := gF Uformulas v1 pF ((if 0 ≤ v2 then bnd6 (fX0_reckon Bslopes Bcontributions Bvariance BdegreesSum Fkinds Flefts Frights Fvalues Fslopes Fsize Froot Iestimates Ivariances Icounts Icovariances) (fun slopes_3 contributions_3 variance_3 degreesSum_3 Fvalues_3 Fslopes_3 => bnd1 (fX0_inputAtRank v2 contributions_3) (fun r4 => some (r4, Fvalues_3, Fslopes_3, slopes_3, contributions_3, variance_3, degreesSum_3))) else none))
abbrev rmX6_ranked : Room := { frames := 5, cells := 0, slots := 0, locals := 119 }

set_option maxHeartbeats 40000000 in
set_option maxRecDepth 100000 in
theorem met_X6_ranked (l : Launch) (D : va_G) (k : Nat → ClassId) (xL xS xV xC : Nat) (aU : Nat → Nat) (aI : Nat → Nat) (aF : Nat → Nat) (aB : Nat → Nat) (sz : Nat) (Uformulas : Nat → Option Nat) (Udrawn : Nat → Int32) (Umodels : Int32) (Iestimates : Nat → Int32) (Ivariances : Nat → Int32) (Isorts : Nat → Int32) (Iwidths : Nat → Int32) (Icounts : Nat → Int32) (Ireadings : Nat → Nat → Int32) (Ifirsts : Nat → Int32) (Iseconds : Nat → Int32) (Icovariances : Nat → Nat → Int32) (Fkinds : Nat → Int32) (Flefts : Nat → Int32) (Frights : Nat → Int32) (Fplaces : Nat → Int32) (Fvalues : Nat → Int64) (Fslopes : Nat → Int64) (Fexponents : Nat → Int32) (Fsize : Int32) (Froot : Int32) (Bslopes : Nat → Int64) (Bcontributions : Nat → Int64) (Bvariance : Int64) (BdegreesSum : Int64) (v1 : Int32) (v2 : Int32) (r : Int32) (RFvalues : Nat → Int64) (RFslopes : Nat → Int64) (RBslopes : Nat → Int64) (RBcontributions : Nat → Int64) (RBvariance : Int64) (RBdegreesSum : Int64) (h : fX6_ranked v1 v2 Uformulas Iestimates Ivariances Icounts Icovariances Fkinds Flefts Frights Fvalues Fslopes Fsize Froot Bslopes Bcontributions Bvariance BdegreesSum (aF 0) = some (r, RFvalues, RFslopes, RBslopes, RBcontributions, RBvariance, RBdegreesSum)) : Met l yX6_ranked wsX6_ranked rmX6_ranked (va_Pc [.ref (aU 0), .int v1, .int v2] (PreW D k ((wU k aU (aI 0) xL xS (aB 0) xV xC Uformulas Udrawn Umodels) ++ (wI k aI Iestimates Ivariances Isorts Iwidths Icounts Ireadings Ifirsts Iseconds Icovariances) ++ (wF k aF Fkinds Flefts Frights Fplaces Fvalues Fslopes Fexponents Fsize Froot) ++ (wB k aB Bslopes Bcontributions Bvariance BdegreesSum)) sz)) (va_Qi (fun r9 (_ : Unit) => r9 = r) (fun _ t => PostW D k (va_A ((wU k aU (aI 0) xL xS (aB 0) xV xC Uformulas Udrawn Umodels) ++ (wI k aI Iestimates Ivariances Isorts Iwidths Icounts Ireadings Ifirsts Iseconds Icovariances) ++ (wF k aF Fkinds Flefts Frights Fplaces Fvalues Fslopes Fexponents Fsize Froot) ++ (wB k aB Bslopes Bcontributions Bvariance BdegreesSum)) sz) ((wU k aU (aI 0) xL xS (aB 0) xV xC Uformulas Udrawn Umodels) ++ (wI k aI Iestimates Ivariances Isorts Iwidths Icounts Ireadings Ifirsts Iseconds Icovariances) ++ (wF k aF Fkinds Flefts Frights Fplaces RFvalues RFslopes Fexponents Fsize Froot) ++ (wB k aB RBslopes RBcontributions RBvariance RBdegreesSum)) t) (va_A ((wU k aU (aI 0) xL xS (aB 0) xV xC Uformulas Udrawn Umodels) ++ (wI k aI Iestimates Ivariances Isorts Iwidths Icounts Ireadings Ifirsts Iseconds Icovariances) ++ (wF k aF Fkinds Flefts Frights Fplaces Fvalues Fslopes Fexponents Fsize Froot) ++ (wB k aB Bslopes Bcontributions Bvariance BdegreesSum)) sz)) 0 0 (va_A ((wU k aU (aI 0) xL xS (aB 0) xV xC Uformulas Udrawn Umodels) ++ (wI k aI Iestimates Ivariances Isorts Iwidths Icounts Ireadings Ifirsts Iseconds Icovariances) ++ (wF k aF Fkinds Flefts Frights Fplaces Fvalues Fslopes Fexponents Fsize Froot) ++ (wB k aB Bslopes Bcontributions Bvariance BdegreesSum)) sz) := by
  refine Met.ofW (cc := cX6_ranked) (maxL := 4) (ret := (some .int)) (by decide) rfl ?_
  intro p e s m args below meth c s₁ B hml hv
  obtain ⟨hav, hsz, hP, hK, hD0⟩ := hv
  have hx := B.exec
  have hb := B.bytes
  have hr := B.returns
  have hts := atoms_spec (ws := wsX6_ranked) B.pre
  have hown : s.vm.findClass RX6 = some m.cls := findClass_of_methodNamed B.named
  have hlocks := B.notSynchronized
  subst hsz
  have hD := hD0.self (sz := s.heap.size)
  clear hD0
  generalize hAe : va_A ((wU k aU (aI 0) xL xS (aB 0) xV xC Uformulas Udrawn Umodels) ++ (wI k aI Iestimates Ivariances Isorts Iwidths Icounts Ireadings Ifirsts Iseconds Icovariances) ++ (wF k aF Fkinds Flefts Frights Fplaces Fvalues Fslopes Fexponents Fsize Froot) ++ (wB k aB Bslopes Bcontributions Bvariance BdegreesSum)) s.heap.size = A at hD ⊢
  have hA : ∀ q : Nat, s.heap.size ≤ q → A q := fun q h => by rw [← hAe]; exact Or.inr h
  have hS : va_S A s.heap s.heap [] := va_S.rf
  have hl := lv_entry ([.ref (aU 0), .int v1, .int v2]) (n := 4) (Nat.le_of_ble_eq_true rfl)
  rw [show entryFrame m args 4 = entryFrame m ([.ref (aU 0), .int v1, .int v2] : List Value).toArray 4 from by rw [hav], lg_entry_eq]
  generalize (lg_sl ([.ref (aU 0), .int v1, .int v2]) ++ List.replicate (4 - (lg_sl ([.ref (aU 0), .int v1, .int v2])).length) Slot.unset).toArray = ls at hl ⊢
  replace hl : lv_has ls 4 [(0, .ref (aU 0)), (1, .int v1), (2, .int v2)] := hl
  have f10 := hts (.fieldLink RX6 10 "UncertainBook" "inputs" "LUncertainBook$Inputs;") (by decide +kernel)
  have f41 := hts (.fieldLink RX6 41 "UncertainBook" "figures" "LUncertainBook$Budget;") (by decide +kernel)
  have iX6 : ∀ w ∈ u_ws RX6 TX6 9, w ∈ wsX6_ranked := by decide +kernel
  refine w_q (fun Q hQ => ?_)
  unfold fX6_ranked at h
  show W p l e rmX6_ranked s m args below meth c s.heap [] 0 0 Q (F0 m 0 ls [])
  suffices main : ∀ (H : Heap) (locs : List Loc) (ls : Array Slot), va_P D vwCl ((wU k aU (aI 0) xL xS (aB 0) xV xC Uformulas Udrawn Umodels) ++ (wI k aI Iestimates Ivariances Isorts Iwidths Icounts Ireadings Ifirsts Iseconds Icovariances) ++ (wF k aF Fkinds Flefts Frights Fplaces Fvalues Fslopes Fexponents Fsize Froot) ++ (wB k aB Bslopes Bcontributions Bvariance BdegreesSum)) H → va_D A ((wU k aU (aI 0) xL xS (aB 0) xV xC Uformulas Udrawn Umodels) ++ (wI k aI Iestimates Ivariances Isorts Iwidths Icounts Ireadings Ifirsts Iseconds Icovariances) ++ (wF k aF Fkinds Flefts Frights Fplaces Fvalues Fslopes Fexponents Fsize Froot) ++ (wB k aB Bslopes Bcontributions Bvariance BdegreesSum)) → va_S A s.heap H locs → lv_has ls 4 [(0, .ref (aU 0)), (1, .int v1), (2, .int v2)] → W p l e rmX6_ranked s m args below meth c H locs 0 0 Q (F0 m 0 ls []) from main _ _ _ hP hD hS hl
  clear hP hD hS hl ls hAe
  intro H locs ls hP hD hS hl
  refine lv_aload_n hx hb dX6_ranked_0 rfl (lv_at hl 0 rfl) ?_
  refine lv_iload_n hx hb dX6_ranked_1 rfl (lv_at hl 1 rfl) ?_
  obtain ⟨hg1, h⟩ := gF_inv h
  have hPc := hP.sub (ws' := wU k aU (aI 0) xL xS (aB 0) xV xC Uformulas Udrawn Umodels) [0, 1, 2] rfl
  have hDc := hD.sub (ws' := wU k aU (aI 0) xL xS (aB 0) xV xC Uformulas Udrawn Umodels) [0, 1, 2] rfl rfl
  have hFc := va_free (wc := wU k aU (aI 0) xL xS (aB 0) xV xC Uformulas Udrawn Umodels) hD hS hA [0, 1, 2] rfl
  refine xc_r (va_runV (As := [.int v1]) (rest := []) ⟨hx, hb, hml, hown, hts⟩ (met_X6_formulaOf l D k aU (aI 0) xL xS (aB 0) xV xC H.size Uformulas Udrawn Umodels v1 _ hg1) (cwV 1 hts gX6_ranked_X6_formulaOf rfl rfl rfl (by decide +kernel) ⟨Nat.le_of_ble_eq_true rfl, Nat.le_of_ble_eq_true rfl⟩) ⟨pw_blind, va_recv hK hPc (ci := 6) (q0 := 0) rfl rfl, pw_start hPc hK hDc⟩ rfl rfl hl.1 rfl (lv_room (Nat.le_of_ble_eq_true rfl)) dX6_ranked_2 ⟨Nat.zero_le _, Nat.zero_le _⟩) hS hFc (fun H1 locs hP1 hD1 hk1 hS => ?_)
  obtain ⟨hP, hD⟩ := vk hP hD [0, 1, 2] rfl hk1 hP1
  clear hP1 hD1 hk1 hFc
  generalize H1 = H at hP hS ⊢
  refine lv_astore_n (lv' := [(3, .ref (aF 0)), (0, .ref (aU 0)), (1, .int v1), (2, .int v2)]) hx hb dX6_ranked_5 rfl hl (by decide) rfl (fun ls hl => ?_)
  refine lv_iload_n hx hb dX6_ranked_6 rfl (lv_at hl 3 rfl) ?_
  refine lv_if_ge (tgt := 20) hx hb dX6_ranked_7 (by decide) (fun c2 => ?_) (fun c2 => ?_)
  · replace h := sf_t c2 h
    refine lv_aload_n hx hb dX6_ranked_20 rfl (lv_at hl 1 rfl) ?_
    refine va_get (D := D) (ci := 6) (v := .ref (aB 0)) (C := RX6) (T := TX6) (N := 9) hx hb hts iX6 hown hK hP 0 rfl rfl 5 (by decide) f41 (fun _ h9 => h9) rfl dX6_ranked_21 ?_
    refine lv_aload_n hx hb dX6_ranked_24 rfl (lv_at hl 0 rfl) ?_
    refine lv_aload_n hx hb dX6_ranked_25 rfl (lv_at hl 1 rfl) ?_
    refine va_get (D := D) (ci := 6) (v := .ref (aI 0)) (C := RX6) (T := TX6) (N := 9) hx hb hts iX6 hown hK hP 0 rfl rfl 0 (by decide) f10 (fun _ h9 => h9) rfl dX6_ranked_26 ?_
    obtain ⟨slopes_3, contributions_3, variance_3, degreesSum_3, Fvalues_3, Fslopes_3, hc3, h⟩ := bnd6_inv h
    have hPc := hP.sub (ws' := ((wB k aB Bslopes Bcontributions Bvariance BdegreesSum) ++ (wF k aF Fkinds Flefts Frights Fplaces Fvalues Fslopes Fexponents Fsize Froot) ++ (wI k aI Iestimates Ivariances Isorts Iwidths Icounts Ireadings Ifirsts Iseconds Icovariances))) [33, 34, 35, 25, 26, 27, 28, 29, 30, 31, 32, 3, 4, 5, 6, 7, 8, 9, 10, 11, 12, 13, 14, 15, 16, 17, 18, 19, 20, 21, 22, 23, 24] rfl
    have hDc := hD.sub (ws' := ((wB k aB Bslopes Bcontributions Bvariance BdegreesSum) ++ (wF k aF Fkinds Flefts Frights Fplaces Fvalues Fslopes Fexponents Fsize Froot) ++ (wI k aI Iestimates Ivariances Isorts Iwidths Icounts Ireadings Ifirsts Iseconds Icovariances))) [33, 34, 35, 25, 26, 27, 28, 29, 30, 31, 32, 3, 4, 5, 6, 7, 8, 9, 10, 11, 12, 13, 14, 15, 16, 17, 18, 19, 20, 21, 22, 23, 24] rfl rfl
    have hFc := va_free (wc := ((wB k aB Bslopes Bcontributions Bvariance BdegreesSum) ++ (wF k aF Fkinds Flefts Frights Fplaces Fvalues Fslopes Fexponents Fsize Froot) ++ (wI k aI Iestimates Ivariances Isorts Iwidths Icounts Ireadings Ifirsts Iseconds Icovariances))) hD hS hA [33, 34, 35, 25, 26, 27, 28, 29, 30, 31, 32, 3, 4, 5, 6, 7, 8, 9, 10, 11, 12, 13, 14, 15, 16, 17, 18, 19, 20, 21, 22, 23, 24] rfl
    refine xc_v (va_runV (As := [.ref (aF 0), .ref (aI 0)]) (rest := []) ⟨hx, hb, hml, hown, hts⟩ (met_X0_reckon l D k  aB aF aI H.size Bslopes Bcontributions Bvariance BdegreesSum Fkinds Flefts Frights Fplaces Fvalues Fslopes Fexponents Fsize Froot Iestimates Ivariances Isorts Iwidths Icounts Ireadings Ifirsts Iseconds Icovariances slopes_3 contributions_3 variance_3 degreesSum_3 Fvalues_3 Fslopes_3 hc3) (cwV 2 hts gX6_ranked_X0_reckon rfl rfl rfl (by decide +kernel) ⟨Nat.le_of_ble_eq_true rfl, Nat.le_of_ble_eq_true rfl⟩) ⟨pw_blind, va_recv hK hPc (ci := 0) (q0 := 0) rfl rfl, pw_start hPc hK hDc⟩ rfl rfl hl.1 rfl (lv_room (Nat.le_of_ble_eq_true rfl)) dX6_ranked_29 ⟨Nat.zero_le _, Nat.zero_le _⟩) hS hFc (fun H1 locs hP1 hD1 hk1 hS => ?_)
    obtain ⟨hP, hD⟩ := vj (ws' := ((wU k aU (aI 0) xL xS (aB 0) xV xC Uformulas Udrawn Umodels) ++ (wI k aI Iestimates Ivariances Isorts Iwidths Icounts Ireadings Ifirsts Iseconds Icovariances) ++ (wF k aF Fkinds Flefts Frights Fplaces Fvalues_3 Fslopes_3 Fexponents Fsize Froot) ++ (wB k aB slopes_3 contributions_3 variance_3 degreesSum_3))) (w1 := ((wB k aB slopes_3 contributions_3 variance_3 degreesSum_3) ++ (wF k aF Fkinds Flefts Frights Fplaces Fvalues_3 Fslopes_3 Fexponents Fsize Froot) ++ (wI k aI Iestimates Ivariances Isorts Iwidths Icounts Ireadings Ifirsts Iseconds Icovariances))) hP hD [33, 34, 35, 25, 26, 27, 28, 29, 30, 31, 32, 3, 4, 5, 6, 7, 8, 9, 10, 11, 12, 13, 14, 15, 16, 17, 18, 19, 20, 21, 22, 23, 24] [0, 1, 2] [0, 1, 2, 14, 15, 16, 17, 18, 19, 20, 21, 22, 23, 24, 25, 26, 27, 28, 29, 30, 31, 32, 33, 34, 35, 6, 7, 8, 9, 10, 11, 12, 13, 3, 4, 5] rfl rfl rfl rfl rfl hk1 hFc hP1 hD1
    clear hP1 hD1 hk1 hFc
    generalize H1 = H at hP hS ⊢
    refine lv_aload_n hx hb dX6_ranked_32 rfl (lv_at hl 1 rfl) ?_
    refine va_get (D := D) (ci := 6) (v := .ref (aB 0)) (C := RX6) (T := TX6) (N := 9) hx hb hts iX6 hown hK hP 0 rfl rfl 5 (by decide) f41 (fun _ h9 => h9) rfl dX6_ranked_33 ?_
    refine lv_iload_n hx hb dX6_ranked_36 rfl (lv_at hl 3 rfl) ?_
    obtain ⟨r4, hc4, h⟩ := bnd1_inv h
    have hPc := hP.sub (ws' := (wB k aB slopes_3 contributions_3 variance_3 degreesSum_3)) [33, 34, 35] rfl
    have hDc := hD.sub (ws' := (wB k aB slopes_3 contributions_3 variance_3 degreesSum_3)) [33, 34, 35] rfl rfl
    have hFc := va_free (wc := (wB k aB slopes_3 contributions_3 variance_3 degreesSum_3)) hD hS hA [33, 34, 35] rfl
    refine xc_i (va_runV (As := [.int v2]) (rest := []) ⟨hx, hb, hml, hown, hts⟩ (met_X0_inputAtRank l D k  aB H.size slopes_3 contributions_3 variance_3 degreesSum_3 v2 r4 hc4) (cwV 1 hts gX6_ranked_X0_inputAtRank rfl rfl rfl (by decide +kernel) ⟨Nat.le_of_ble_eq_true rfl, Nat.le_of_ble_eq_true rfl⟩) ⟨pw_blind, va_recv hK hPc (ci := 0) (q0 := 0) rfl rfl, pw_start hPc hK hDc⟩ rfl rfl hl.1 rfl (lv_room (Nat.le_of_ble_eq_true rfl)) dX6_ranked_37 ⟨Nat.zero_le _, Nat.zero_le _⟩) hS hFc (fun H1 locs hP1 hD1 hk1 hS => ?_)
    obtain ⟨hP, hD⟩ := vk hP hD [33, 34, 35] rfl hk1 hP1
    clear hP1 hD1 hk1 hFc
    generalize H1 = H at hP hS ⊢
    have hP9 := hP
    have hD9 := hD
    have hS9 := hS
    subst hQ
    cases h
    exact W.iret hx hb hr (fun t ht hW => ⟨⟨_, (), rfl, rfl, by rw [ht]; exact hP9, va_K.moved hW.alike hK, hD9⟩, hS9.F ht⟩) hS9.2.2 dX6_ranked_40
  · replace h := sf_f c2 h
    cases h
