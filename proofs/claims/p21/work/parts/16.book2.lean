def fX6_budget (v1 : Int32) (v2 : Int32) (Uformulas : Nat → Option Nat) (Iestimates : Nat → Int32) (Ivariances : Nat → Int32) (Icounts : Nat → Int32) (Icovariances : Nat → Nat → Int32) (Fkinds : Nat → Int32) (Flefts : Nat → Int32) (Frights : Nat → Int32) (Fvalues : Nat → Int64) (Fslopes : Nat → Int64) (Fsize : Int32) (Froot : Int32) (Bslopes : Nat → Int64) (Bcontributions : Nat → Int64) (Bvariance : Int64) (BdegreesSum : Int64) (Vdegrees : Nat → Int32) (Vfactors : Nat → Int32) (Vcount : Int32) (pF : Nat) : Option (Int64 × (Nat → Int64) × (Nat → Int64) × (Nat → Int64) × (Nat → Int64) × Int64 × Int64) := gF Uformulas v1 pF (bnd0 (fX6_checkRange v2 0 4) (bnd6 (fX0_reckon Bslopes Bcontributions Bvariance BdegreesSum Fkinds Flefts Frights Fvalues Fslopes Fsize Froot Iestimates Ivariances Icounts Icovariances) (fun slopes_3 contributions_3 variance_3 degreesSum_3 Fvalues_3 Fslopes_3 => (if v2 = 0 then some (variance_3, Fvalues_3, Fslopes_3, slopes_3, contributions_3, variance_3, degreesSum_3) else if v2 = 1 then bnd1 (fX0_doubt variance_3) (fun r6 => some (r6, Fvalues_3, Fslopes_3, slopes_3, contributions_3, variance_3, degreesSum_3)) else if v2 = 2 then bnd1 (fX0_degrees degreesSum_3) (fun r8 => some (r8, Fvalues_3, Fslopes_3, slopes_3, contributions_3, variance_3, degreesSum_3)) else if v2 = 3 then bnd1 (fX0_factor degreesSum_3 Vdegrees Vfactors Vcount) (fun r10 => some (r10.toInt64, Fvalues_3, Fslopes_3, slopes_3, contributions_3, variance_3, degreesSum_3)) else bnd1 (fX0_statedDoubt variance_3 degreesSum_3 Vdegrees Vfactors Vcount) (fun r11 => some (r11, Fvalues_3, Fslopes_3, slopes_3, contributions_3, variance_3, degreesSum_3))))))
abbrev rmX6_budget : Room := { frames := 5, cells := 0, slots := 0, locals := 119 }

set_option maxHeartbeats 40000000 in
set_option maxRecDepth 100000 in
theorem met_X6_budget (l : Launch) (D : va_G) (k : Nat → ClassId) (xL xS xC : Nat) (aU : Nat → Nat) (aI : Nat → Nat) (aF : Nat → Nat) (aB : Nat → Nat) (aV : Nat → Nat) (sz : Nat) (Uformulas : Nat → Option Nat) (Udrawn : Nat → Int32) (Umodels : Int32) (Iestimates : Nat → Int32) (Ivariances : Nat → Int32) (Isorts : Nat → Int32) (Iwidths : Nat → Int32) (Icounts : Nat → Int32) (Ireadings : Nat → Nat → Int32) (Ifirsts : Nat → Int32) (Iseconds : Nat → Int32) (Icovariances : Nat → Nat → Int32) (Fkinds : Nat → Int32) (Flefts : Nat → Int32) (Frights : Nat → Int32) (Fplaces : Nat → Int32) (Fvalues : Nat → Int64) (Fslopes : Nat → Int64) (Fexponents : Nat → Int32) (Fsize : Int32) (Froot : Int32) (Bslopes : Nat → Int64) (Bcontributions : Nat → Int64) (Bvariance : Int64) (BdegreesSum : Int64) (Vdegrees : Nat → Int32) (Vfactors : Nat → Int32) (Vcount : Int32) (v1 : Int32) (v2 : Int32) (r : Int64) (RFvalues : Nat → Int64) (RFslopes : Nat → Int64) (RBslopes : Nat → Int64) (RBcontributions : Nat → Int64) (RBvariance : Int64) (RBdegreesSum : Int64) (h : fX6_budget v1 v2 Uformulas Iestimates Ivariances Icounts Icovariances Fkinds Flefts Frights Fvalues Fslopes Fsize Froot Bslopes Bcontributions Bvariance BdegreesSum Vdegrees Vfactors Vcount (aF 0) = some (r, RFvalues, RFslopes, RBslopes, RBcontributions, RBvariance, RBdegreesSum)) : Met l yX6_budget wsX6_budget rmX6_budget (va_Pc [.ref (aU 0), .int v1, .int v2] (PreW D k ((wU k aU (aI 0) xL xS (aB 0) (aV 0) xC Uformulas Udrawn Umodels) ++ (wI k aI Iestimates Ivariances Isorts Iwidths Icounts Ireadings Ifirsts Iseconds Icovariances) ++ (wF k aF Fkinds Flefts Frights Fplaces Fvalues Fslopes Fexponents Fsize Froot) ++ (wB k aB Bslopes Bcontributions Bvariance BdegreesSum) ++ (wV k aV Vdegrees Vfactors Vcount)) sz)) (va_Ql (fun r9 (_ : Unit) => r9 = r) (fun _ t => PostW D k (va_A ((wU k aU (aI 0) xL xS (aB 0) (aV 0) xC Uformulas Udrawn Umodels) ++ (wI k aI Iestimates Ivariances Isorts Iwidths Icounts Ireadings Ifirsts Iseconds Icovariances) ++ (wF k aF Fkinds Flefts Frights Fplaces Fvalues Fslopes Fexponents Fsize Froot) ++ (wB k aB Bslopes Bcontributions Bvariance BdegreesSum) ++ (wV k aV Vdegrees Vfactors Vcount)) sz) ((wU k aU (aI 0) xL xS (aB 0) (aV 0) xC Uformulas Udrawn Umodels) ++ (wI k aI Iestimates Ivariances Isorts Iwidths Icounts Ireadings Ifirsts Iseconds Icovariances) ++ (wF k aF Fkinds Flefts Frights Fplaces RFvalues RFslopes Fexponents Fsize Froot) ++ (wB k aB RBslopes RBcontributions RBvariance RBdegreesSum) ++ (wV k aV Vdegrees Vfactors Vcount)) t) (va_A ((wU k aU (aI 0) xL xS (aB 0) (aV 0) xC Uformulas Udrawn Umodels) ++ (wI k aI Iestimates Ivariances Isorts Iwidths Icounts Ireadings Ifirsts Iseconds Icovariances) ++ (wF k aF Fkinds Flefts Frights Fplaces Fvalues Fslopes Fexponents Fsize Froot) ++ (wB k aB Bslopes Bcontributions Bvariance BdegreesSum) ++ (wV k aV Vdegrees Vfactors Vcount)) sz)) 0 0 (va_A ((wU k aU (aI 0) xL xS (aB 0) (aV 0) xC Uformulas Udrawn Umodels) ++ (wI k aI Iestimates Ivariances Isorts Iwidths Icounts Ireadings Ifirsts Iseconds Icovariances) ++ (wF k aF Fkinds Flefts Frights Fplaces Fvalues Fslopes Fexponents Fsize Froot) ++ (wB k aB Bslopes Bcontributions Bvariance BdegreesSum) ++ (wV k aV Vdegrees Vfactors Vcount)) sz) := by
  refine Met.ofW (cc := cX6_budget) (maxL := 4) (ret := (some .long)) (by decide) rfl ?_
  intro p e s m args below meth c s₁ B hml hv
  obtain ⟨hav, hsz, hP, hK, hD0⟩ := hv
  have hx := B.exec
  have hb := B.bytes
  have hr := B.returns
  have hts := atoms_spec (ws := wsX6_budget) B.pre
  have hown : s.vm.findClass RX6 = some m.cls := findClass_of_methodNamed B.named
  have hlocks := B.notSynchronized
  subst hsz
  have hD := hD0.self (sz := s.heap.size)
  clear hD0
  generalize hAe : va_A ((wU k aU (aI 0) xL xS (aB 0) (aV 0) xC Uformulas Udrawn Umodels) ++ (wI k aI Iestimates Ivariances Isorts Iwidths Icounts Ireadings Ifirsts Iseconds Icovariances) ++ (wF k aF Fkinds Flefts Frights Fplaces Fvalues Fslopes Fexponents Fsize Froot) ++ (wB k aB Bslopes Bcontributions Bvariance BdegreesSum) ++ (wV k aV Vdegrees Vfactors Vcount)) s.heap.size = A at hD ⊢
  have hA : ∀ q : Nat, s.heap.size ≤ q → A q := fun q h => by rw [← hAe]; exact Or.inr h
  have hS : va_S A s.heap s.heap [] := va_S.rf
  have hl := lv_entry ([.ref (aU 0), .int v1, .int v2]) (n := 4) (Nat.le_of_ble_eq_true rfl)
  rw [show entryFrame m args 4 = entryFrame m ([.ref (aU 0), .int v1, .int v2] : List Value).toArray 4 from by rw [hav], lg_entry_eq]
  generalize (lg_sl ([.ref (aU 0), .int v1, .int v2]) ++ List.replicate (4 - (lg_sl ([.ref (aU 0), .int v1, .int v2])).length) Slot.unset).toArray = ls at hl ⊢
  replace hl : lv_has ls 4 [(0, .ref (aU 0)), (1, .int v1), (2, .int v2)] := hl
  have f10 := hts (.fieldLink RX6 10 "UncertainBook" "inputs" "LUncertainBook$Inputs;") (by decide +kernel)
  have f41 := hts (.fieldLink RX6 41 "UncertainBook" "figures" "LUncertainBook$Budget;") (by decide +kernel)
  have f48 := hts (.fieldLink RX6 48 "UncertainBook" "coverage" "LUncertainBook$Coverage;") (by decide +kernel)
  have f185 := hts (.fieldLink RX6 185 "UncertainBook$Budget" "variance" "J") (by decide +kernel)
  have iX0 : ∀ w ∈ u_ws RX0 TX0 4, w ∈ wsX6_budget := by decide +kernel
  have iX6 : ∀ w ∈ u_ws RX6 TX6 9, w ∈ wsX6_budget := by decide +kernel
  refine w_q (fun Q hQ => ?_)
  unfold fX6_budget at h
  show W p l e rmX6_budget s m args below meth c s.heap [] 0 0 Q (F0 m 0 ls [])
  suffices main : ∀ (H : Heap) (locs : List Loc) (ls : Array Slot), va_P D vwCl ((wU k aU (aI 0) xL xS (aB 0) (aV 0) xC Uformulas Udrawn Umodels) ++ (wI k aI Iestimates Ivariances Isorts Iwidths Icounts Ireadings Ifirsts Iseconds Icovariances) ++ (wF k aF Fkinds Flefts Frights Fplaces Fvalues Fslopes Fexponents Fsize Froot) ++ (wB k aB Bslopes Bcontributions Bvariance BdegreesSum) ++ (wV k aV Vdegrees Vfactors Vcount)) H → va_D A ((wU k aU (aI 0) xL xS (aB 0) (aV 0) xC Uformulas Udrawn Umodels) ++ (wI k aI Iestimates Ivariances Isorts Iwidths Icounts Ireadings Ifirsts Iseconds Icovariances) ++ (wF k aF Fkinds Flefts Frights Fplaces Fvalues Fslopes Fexponents Fsize Froot) ++ (wB k aB Bslopes Bcontributions Bvariance BdegreesSum) ++ (wV k aV Vdegrees Vfactors Vcount)) → va_S A s.heap H locs → lv_has ls 4 [(0, .ref (aU 0)), (1, .int v1), (2, .int v2)] → W p l e rmX6_budget s m args below meth c H locs 0 0 Q (F0 m 0 ls []) from main _ _ _ hP hD hS hl
  clear hP hD hS hl ls hAe
  intro H locs ls hP hD hS hl
  refine lv_aload_n hx hb dX6_budget_0 rfl (lv_at hl 0 rfl) ?_
  refine lv_iload_n hx hb dX6_budget_1 rfl (lv_at hl 1 rfl) ?_
  obtain ⟨hg1, h⟩ := gF_inv h
  have hPc := hP.sub (ws' := wU k aU (aI 0) xL xS (aB 0) (aV 0) xC Uformulas Udrawn Umodels) [0, 1, 2] rfl
  have hDc := hD.sub (ws' := wU k aU (aI 0) xL xS (aB 0) (aV 0) xC Uformulas Udrawn Umodels) [0, 1, 2] rfl rfl
  have hFc := va_free (wc := wU k aU (aI 0) xL xS (aB 0) (aV 0) xC Uformulas Udrawn Umodels) hD hS hA [0, 1, 2] rfl
  refine xc_r (va_runV (As := [.int v1]) (rest := []) ⟨hx, hb, hml, hown, hts⟩ (met_X6_formulaOf l D k aU (aI 0) xL xS (aB 0) (aV 0) xC H.size Uformulas Udrawn Umodels v1 _ hg1) (cwV 1 hts gX6_budget_X6_formulaOf rfl rfl rfl (by decide +kernel) ⟨Nat.le_of_ble_eq_true rfl, Nat.le_of_ble_eq_true rfl⟩) ⟨pw_blind, va_recv hK hPc (ci := 6) (q0 := 0) rfl rfl, pw_start hPc hK hDc⟩ rfl rfl hl.1 rfl (lv_room (Nat.le_of_ble_eq_true rfl)) dX6_budget_2 ⟨Nat.zero_le _, Nat.zero_le _⟩) hS hFc (fun H1 locs hP1 hD1 hk1 hS => ?_)
  obtain ⟨hP, hD⟩ := vk hP hD [0, 1, 2] rfl hk1 hP1
  clear hP1 hD1 hk1 hFc
  generalize H1 = H at hP hS ⊢
  refine lv_astore_n (lv' := [(3, .ref (aF 0)), (0, .ref (aU 0)), (1, .int v1), (2, .int v2)]) hx hb dX6_budget_5 rfl hl (by decide) rfl (fun ls hl => ?_)
  refine lv_iload_n hx hb dX6_budget_6 rfl (lv_at hl 3 rfl) ?_
  refine lv_iconst (v := 0) hx hb dX6_budget_7 (by decide) ?_
  refine lv_iconst (v := 4) hx hb dX6_budget_8 (by decide) ?_
  obtain ⟨hc2, h⟩ := bnd0_inv h
  have hPc := hP.sub (ws' := ([] : va_W)) [] rfl
  have hDc := hD.sub (ws' := ([] : va_W)) [] rfl rfl
  have hFc := va_free (wc := ([] : va_W)) hD hS hA [] rfl
  refine xc_v (va_runS (As := [.int v2, .int 0, .int 4]) (rest := []) ⟨hx, hb, hml, hown, hts⟩ (met_X6_checkRange l D k  H.size v2 0 4 hc2) (va_cwS 3 hts gX6_budget_X6_checkRange rfl rfl rfl (by decide +kernel) ⟨Nat.le_of_ble_eq_true rfl, Nat.le_of_ble_eq_true rfl⟩) ⟨pw_blind, pw_start hPc hK hDc⟩ rfl rfl hl.1 rfl (lv_room (Nat.le_of_ble_eq_true rfl)) dX6_budget_9 ⟨Nat.zero_le _, Nat.zero_le _⟩) hS hFc (fun H1 locs hP1 hD1 hk1 hS => ?_)
  obtain ⟨hP, hD⟩ := vk hP hD [] rfl hk1 hP1
  clear hP1 hD1 hk1 hFc
  generalize H1 = H at hP hS ⊢
  refine lv_aload_n hx hb dX6_budget_12 rfl (lv_at hl 1 rfl) ?_
  refine va_get (D := D) (ci := 6) (v := .ref (aB 0)) (C := RX6) (T := TX6) (N := 9) hx hb hts iX6 hown hK hP 0 rfl rfl 5 (by decide) f41 (fun _ h9 => h9) rfl dX6_budget_13 ?_
  refine lv_aload_n hx hb dX6_budget_16 rfl (lv_at hl 0 rfl) ?_
  refine lv_aload_n hx hb dX6_budget_17 rfl (lv_at hl 1 rfl) ?_
  refine va_get (D := D) (ci := 6) (v := .ref (aI 0)) (C := RX6) (T := TX6) (N := 9) hx hb hts iX6 hown hK hP 0 rfl rfl 0 (by decide) f10 (fun _ h9 => h9) rfl dX6_budget_18 ?_
  obtain ⟨slopes_3, contributions_3, variance_3, degreesSum_3, Fvalues_3, Fslopes_3, hc3, h⟩ := bnd6_inv h
  have hPc := hP.sub (ws' := ((wB k aB Bslopes Bcontributions Bvariance BdegreesSum) ++ (wF k aF Fkinds Flefts Frights Fplaces Fvalues Fslopes Fexponents Fsize Froot) ++ (wI k aI Iestimates Ivariances Isorts Iwidths Icounts Ireadings Ifirsts Iseconds Icovariances))) [33, 34, 35, 25, 26, 27, 28, 29, 30, 31, 32, 3, 4, 5, 6, 7, 8, 9, 10, 11, 12, 13, 14, 15, 16, 17, 18, 19, 20, 21, 22, 23, 24] rfl
  have hDc := hD.sub (ws' := ((wB k aB Bslopes Bcontributions Bvariance BdegreesSum) ++ (wF k aF Fkinds Flefts Frights Fplaces Fvalues Fslopes Fexponents Fsize Froot) ++ (wI k aI Iestimates Ivariances Isorts Iwidths Icounts Ireadings Ifirsts Iseconds Icovariances))) [33, 34, 35, 25, 26, 27, 28, 29, 30, 31, 32, 3, 4, 5, 6, 7, 8, 9, 10, 11, 12, 13, 14, 15, 16, 17, 18, 19, 20, 21, 22, 23, 24] rfl rfl
  have hFc := va_free (wc := ((wB k aB Bslopes Bcontributions Bvariance BdegreesSum) ++ (wF k aF Fkinds Flefts Frights Fplaces Fvalues Fslopes Fexponents Fsize Froot) ++ (wI k aI Iestimates Ivariances Isorts Iwidths Icounts Ireadings Ifirsts Iseconds Icovariances))) hD hS hA [33, 34, 35, 25, 26, 27, 28, 29, 30, 31, 32, 3, 4, 5, 6, 7, 8, 9, 10, 11, 12, 13, 14, 15, 16, 17, 18, 19, 20, 21, 22, 23, 24] rfl
  refine xc_v (va_runV (As := [.ref (aF 0), .ref (aI 0)]) (rest := []) ⟨hx, hb, hml, hown, hts⟩ (met_X0_reckon l D k  aB aF aI H.size Bslopes Bcontributions Bvariance BdegreesSum Fkinds Flefts Frights Fplaces Fvalues Fslopes Fexponents Fsize Froot Iestimates Ivariances Isorts Iwidths Icounts Ireadings Ifirsts Iseconds Icovariances slopes_3 contributions_3 variance_3 degreesSum_3 Fvalues_3 Fslopes_3 hc3) (cwV 2 hts gX6_budget_X0_reckon rfl rfl rfl (by decide +kernel) ⟨Nat.le_of_ble_eq_true rfl, Nat.le_of_ble_eq_true rfl⟩) ⟨pw_blind, va_recv hK hPc (ci := 0) (q0 := 0) rfl rfl, pw_start hPc hK hDc⟩ rfl rfl hl.1 rfl (lv_room (Nat.le_of_ble_eq_true rfl)) dX6_budget_21 ⟨Nat.zero_le _, Nat.zero_le _⟩) hS hFc (fun H1 locs hP1 hD1 hk1 hS => ?_)
  obtain ⟨hP, hD⟩ := vj (ws' := ((wU k aU (aI 0) xL xS (aB 0) (aV 0) xC Uformulas Udrawn Umodels) ++ (wI k aI Iestimates Ivariances Isorts Iwidths Icounts Ireadings Ifirsts Iseconds Icovariances) ++ (wF k aF Fkinds Flefts Frights Fplaces Fvalues_3 Fslopes_3 Fexponents Fsize Froot) ++ (wB k aB slopes_3 contributions_3 variance_3 degreesSum_3) ++ (wV k aV Vdegrees Vfactors Vcount))) (w1 := ((wB k aB slopes_3 contributions_3 variance_3 degreesSum_3) ++ (wF k aF Fkinds Flefts Frights Fplaces Fvalues_3 Fslopes_3 Fexponents Fsize Froot) ++ (wI k aI Iestimates Ivariances Isorts Iwidths Icounts Ireadings Ifirsts Iseconds Icovariances))) hP hD [33, 34, 35, 25, 26, 27, 28, 29, 30, 31, 32, 3, 4, 5, 6, 7, 8, 9, 10, 11, 12, 13, 14, 15, 16, 17, 18, 19, 20, 21, 22, 23, 24] [0, 1, 2, 36, 37, 38] [0, 1, 2, 17, 18, 19, 20, 21, 22, 23, 24, 25, 26, 27, 28, 29, 30, 31, 32, 33, 34, 35, 36, 37, 38, 9, 10, 11, 12, 13, 14, 15, 16, 6, 7, 8, 3, 4, 5] rfl rfl rfl rfl rfl hk1 hFc hP1 hD1
  clear hP1 hD1 hk1 hFc
  generalize H1 = H at hP hS ⊢
  refine lv_iload_n hx hb dX6_budget_24 rfl (lv_at hl 3 rfl) ?_
  rcases Decidable.em (v2 = 0) with c4 | c4
  · replace h := sf_t c4 h
    refine lv_tableIn (off := 31) (tgt := 56) hx hb dX6_budget_25 (by rw [c4]; decide) (by rw [c4]; decide) (by rw [c4]; rfl) (by decide) ?_
    refine lv_aload_n hx hb dX6_budget_56 rfl (lv_at hl 1 rfl) ?_
    refine va_get (D := D) (ci := 6) (v := .ref (aB 0)) (C := RX6) (T := TX6) (N := 9) hx hb hts iX6 hown hK hP 0 rfl rfl 5 (by decide) f41 (fun _ h9 => h9) rfl dX6_budget_57 ?_
    refine va_get (D := D) (ci := 0) (v := .long variance_3) (C := RX0) (T := TX0) (N := 4) hx hb hts iX0 hown hK hP 33 rfl rfl 2 (by decide) f185 (fun _ h9 => h9) rfl dX6_budget_60 ?_
    have hP9 := hP
    have hD9 := hD
    have hS9 := hS
    subst hQ
    cases h
    exact W.lret hx hb hr (fun t ht hW => ⟨⟨_, (), rfl, rfl, by rw [ht]; exact hP9, va_K.moved hW.alike hK, hD9⟩, hS9.F ht⟩) hS9.2.2 dX6_budget_63
  replace h := sf_f c4 h
  rcases Decidable.em (v2 = 1) with c5 | c5
  · replace h := sf_t c5 h
    refine lv_tableIn (off := 39) (tgt := 64) hx hb dX6_budget_25 (by rw [c5]; decide) (by rw [c5]; decide) (by rw [c5]; rfl) (by decide) ?_
    refine lv_aload_n hx hb dX6_budget_64 rfl (lv_at hl 1 rfl) ?_
    refine va_get (D := D) (ci := 6) (v := .ref (aB 0)) (C := RX6) (T := TX6) (N := 9) hx hb hts iX6 hown hK hP 0 rfl rfl 5 (by decide) f41 (fun _ h9 => h9) rfl dX6_budget_65 ?_
    obtain ⟨r6, hc6, h⟩ := bnd1_inv h
    have hPc := hP.sub (ws' := (wB k aB slopes_3 contributions_3 variance_3 degreesSum_3)) [33, 34, 35] rfl
    have hDc := hD.sub (ws' := (wB k aB slopes_3 contributions_3 variance_3 degreesSum_3)) [33, 34, 35] rfl rfl
    have hFc := va_free (wc := (wB k aB slopes_3 contributions_3 variance_3 degreesSum_3)) hD hS hA [33, 34, 35] rfl
    refine xc_l (va_runV (As := []) (rest := []) ⟨hx, hb, hml, hown, hts⟩ (met_X0_doubt l D k  aB H.size slopes_3 contributions_3 variance_3 degreesSum_3 r6 hc6) (cwV 0 hts gX6_budget_X0_doubt rfl rfl rfl (by decide +kernel) ⟨Nat.le_of_ble_eq_true rfl, Nat.le_of_ble_eq_true rfl⟩) ⟨pw_blind, va_recv hK hPc (ci := 0) (q0 := 0) rfl rfl, pw_start hPc hK hDc⟩ rfl rfl hl.1 rfl (lv_room (Nat.le_of_ble_eq_true rfl)) dX6_budget_68 ⟨Nat.zero_le _, Nat.zero_le _⟩) hS hFc (fun H1 locs hP1 hD1 hk1 hS => ?_)
    obtain ⟨hP, hD⟩ := vk hP hD [33, 34, 35] rfl hk1 hP1
    clear hP1 hD1 hk1 hFc
    generalize H1 = H at hP hS ⊢
    have hP9 := hP
    have hD9 := hD
    have hS9 := hS
    subst hQ
    cases h
    exact W.lret hx hb hr (fun t ht hW => ⟨⟨_, (), rfl, rfl, by rw [ht]; exact hP9, va_K.moved hW.alike hK, hD9⟩, hS9.F ht⟩) hS9.2.2 dX6_budget_71
  replace h := sf_f c5 h
  rcases Decidable.em (v2 = 2) with c7 | c7
  · replace h := sf_t c7 h
    refine lv_tableIn (off := 47) (tgt := 72) hx hb dX6_budget_25 (by rw [c7]; decide) (by rw [c7]; decide) (by rw [c7]; rfl) (by decide) ?_
    refine lv_aload_n hx hb dX6_budget_72 rfl (lv_at hl 1 rfl) ?_
    refine va_get (D := D) (ci := 6) (v := .ref (aB 0)) (C := RX6) (T := TX6) (N := 9) hx hb hts iX6 hown hK hP 0 rfl rfl 5 (by decide) f41 (fun _ h9 => h9) rfl dX6_budget_73 ?_
    obtain ⟨r8, hc8, h⟩ := bnd1_inv h
    have hPc := hP.sub (ws' := (wB k aB slopes_3 contributions_3 variance_3 degreesSum_3)) [33, 34, 35] rfl
    have hDc := hD.sub (ws' := (wB k aB slopes_3 contributions_3 variance_3 degreesSum_3)) [33, 34, 35] rfl rfl
    have hFc := va_free (wc := (wB k aB slopes_3 contributions_3 variance_3 degreesSum_3)) hD hS hA [33, 34, 35] rfl
    refine xc_l (va_runV (As := []) (rest := []) ⟨hx, hb, hml, hown, hts⟩ (met_X0_degrees l D k  aB H.size slopes_3 contributions_3 variance_3 degreesSum_3 r8 hc8) (cwV 0 hts gX6_budget_X0_degrees rfl rfl rfl (by decide +kernel) ⟨Nat.le_of_ble_eq_true rfl, Nat.le_of_ble_eq_true rfl⟩) ⟨pw_blind, va_recv hK hPc (ci := 0) (q0 := 0) rfl rfl, pw_start hPc hK hDc⟩ rfl rfl hl.1 rfl (lv_room (Nat.le_of_ble_eq_true rfl)) dX6_budget_76 ⟨Nat.zero_le _, Nat.zero_le _⟩) hS hFc (fun H1 locs hP1 hD1 hk1 hS => ?_)
    obtain ⟨hP, hD⟩ := vk hP hD [33, 34, 35] rfl hk1 hP1
    clear hP1 hD1 hk1 hFc
    generalize H1 = H at hP hS ⊢
    have hP9 := hP
    have hD9 := hD
    have hS9 := hS
    subst hQ
    cases h
    exact W.lret hx hb hr (fun t ht hW => ⟨⟨_, (), rfl, rfl, by rw [ht]; exact hP9, va_K.moved hW.alike hK, hD9⟩, hS9.F ht⟩) hS9.2.2 dX6_budget_79
  replace h := sf_f c7 h
  rcases Decidable.em (v2 = 3) with c9 | c9
  · replace h := sf_t c9 h
    refine lv_tableIn (off := 55) (tgt := 80) hx hb dX6_budget_25 (by rw [c9]; decide) (by rw [c9]; decide) (by rw [c9]; rfl) (by decide) ?_
    refine lv_aload_n hx hb dX6_budget_80 rfl (lv_at hl 1 rfl) ?_
    refine va_get (D := D) (ci := 6) (v := .ref (aB 0)) (C := RX6) (T := TX6) (N := 9) hx hb hts iX6 hown hK hP 0 rfl rfl 5 (by decide) f41 (fun _ h9 => h9) rfl dX6_budget_81 ?_
    refine lv_aload_n hx hb dX6_budget_84 rfl (lv_at hl 1 rfl) ?_
    refine va_get (D := D) (ci := 6) (v := .ref (aV 0)) (C := RX6) (T := TX6) (N := 9) hx hb hts iX6 hown hK hP 0 rfl rfl 6 (by decide) f48 (fun _ h9 => h9) rfl dX6_budget_85 ?_
    obtain ⟨r10, hc10, h⟩ := bnd1_inv h
    have hPc := hP.sub (ws' := ((wB k aB slopes_3 contributions_3 variance_3 degreesSum_3) ++ (wV k aV Vdegrees Vfactors Vcount))) [33, 34, 35, 36, 37, 38] rfl
    have hDc := hD.sub (ws' := ((wB k aB slopes_3 contributions_3 variance_3 degreesSum_3) ++ (wV k aV Vdegrees Vfactors Vcount))) [33, 34, 35, 36, 37, 38] rfl rfl
    have hFc := va_free (wc := ((wB k aB slopes_3 contributions_3 variance_3 degreesSum_3) ++ (wV k aV Vdegrees Vfactors Vcount))) hD hS hA [33, 34, 35, 36, 37, 38] rfl
    refine xc_i (va_runV (As := [.ref (aV 0)]) (rest := []) ⟨hx, hb, hml, hown, hts⟩ (met_X0_factor l D k  aB aV H.size slopes_3 contributions_3 variance_3 degreesSum_3 Vdegrees Vfactors Vcount r10 hc10) (cwV 1 hts gX6_budget_X0_factor rfl rfl rfl (by decide +kernel) ⟨Nat.le_of_ble_eq_true rfl, Nat.le_of_ble_eq_true rfl⟩) ⟨pw_blind, va_recv hK hPc (ci := 0) (q0 := 0) rfl rfl, pw_start hPc hK hDc⟩ rfl rfl hl.1 rfl (lv_room (Nat.le_of_ble_eq_true rfl)) dX6_budget_88 ⟨Nat.zero_le _, Nat.zero_le _⟩) hS hFc (fun H1 locs hP1 hD1 hk1 hS => ?_)
    obtain ⟨hP, hD⟩ := vk hP hD [33, 34, 35, 36, 37, 38] rfl hk1 hP1
    clear hP1 hD1 hk1 hFc
    generalize H1 = H at hP hS ⊢
    refine lv_i2l hx hb dX6_budget_91 rfl ?_
    have hP9 := hP
    have hD9 := hD
    have hS9 := hS
    subst hQ
    cases h
    exact W.lret hx hb hr (fun t ht hW => ⟨⟨_, (), rfl, rfl, by rw [ht]; exact hP9, va_K.moved hW.alike hK, hD9⟩, hS9.F ht⟩) hS9.2.2 dX6_budget_92
  replace h := sf_f c9 h
  refine lv_tableOut (tgt := 93) hx hb dX6_budget_25 (by have z0 := lv_neT (a := 0) c4 rfl; have z1 := lv_neT (a := 1) c5 rfl; have z2 := lv_neT (a := 2) c7 rfl; have z3 := lv_neT (a := 3) c9 rfl; omega) (by decide) ?_
  refine lv_aload_n hx hb dX6_budget_93 rfl (lv_at hl 1 rfl) ?_
  refine va_get (D := D) (ci := 6) (v := .ref (aB 0)) (C := RX6) (T := TX6) (N := 9) hx hb hts iX6 hown hK hP 0 rfl rfl 5 (by decide) f41 (fun _ h9 => h9) rfl dX6_budget_94 ?_
  refine lv_aload_n hx hb dX6_budget_97 rfl (lv_at hl 1 rfl) ?_
  refine va_get (D := D) (ci := 6) (v := .ref (aV 0)) (C := RX6) (T := TX6) (N := 9) hx hb hts iX6 hown hK hP 0 rfl rfl 6 (by decide) f48 (fun _ h9 => h9) rfl dX6_budget_98 ?_
  obtain ⟨r11, hc11, h⟩ := bnd1_inv h
  have hPc := hP.sub (ws' := ((wB k aB slopes_3 contributions_3 variance_3 degreesSum_3) ++ (wV k aV Vdegrees Vfactors Vcount))) [33, 34, 35, 36, 37, 38] rfl
  have hDc := hD.sub (ws' := ((wB k aB slopes_3 contributions_3 variance_3 degreesSum_3) ++ (wV k aV Vdegrees Vfactors Vcount))) [33, 34, 35, 36, 37, 38] rfl rfl
  have hFc := va_free (wc := ((wB k aB slopes_3 contributions_3 variance_3 degreesSum_3) ++ (wV k aV Vdegrees Vfactors Vcount))) hD hS hA [33, 34, 35, 36, 37, 38] rfl
  refine xc_l (va_runV (As := [.ref (aV 0)]) (rest := []) ⟨hx, hb, hml, hown, hts⟩ (met_X0_statedDoubt l D k  aB aV H.size slopes_3 contributions_3 variance_3 degreesSum_3 Vdegrees Vfactors Vcount r11 hc11) (cwV 1 hts gX6_budget_X0_statedDoubt rfl rfl rfl (by decide +kernel) ⟨Nat.le_of_ble_eq_true rfl, Nat.le_of_ble_eq_true rfl⟩) ⟨pw_blind, va_recv hK hPc (ci := 0) (q0 := 0) rfl rfl, pw_start hPc hK hDc⟩ rfl rfl hl.1 rfl (lv_room (Nat.le_of_ble_eq_true rfl)) dX6_budget_101 ⟨Nat.zero_le _, Nat.zero_le _⟩) hS hFc (fun H1 locs hP1 hD1 hk1 hS => ?_)
  obtain ⟨hP, hD⟩ := vk hP hD [33, 34, 35, 36, 37, 38] rfl hk1 hP1
  clear hP1 hD1 hk1 hFc
  generalize H1 = H at hP hS ⊢
  have hP9 := hP
  have hD9 := hD
  have hS9 := hS
  subst hQ
  cases h
  exact W.lret hx hb hr (fun t ht hW => ⟨⟨_, (), rfl, rfl, by rw [ht]; exact hP9, va_K.moved hW.alike hK, hD9⟩, hS9.F ht⟩) hS9.2.2 dX6_budget_104
