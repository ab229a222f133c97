def fX6_disagrees (v1 : Int32) (Uformulas : Nat → Option Nat) (Ifirsts : Nat → Int32) (Iseconds : Nat → Int32) (Fkinds : Nat → Int32) (Flefts : Nat → Int32) (Frights : Nat → Int32) (Fplaces : Nat → Int32) (Fexponents : Nat → Int32) (Fsize : Int32) (Froot : Int32) (pF : Nat) : Option (Int32 × (Nat → Int32)) := gF Uformulas v1 pF (bnd2 (fX3_findDisagreement Fkinds Flefts Frights Fplaces Fexponents Fsize Froot Ifirsts Iseconds) (fun r2 exponents_2 => some (r2, exponents_2)))
abbrev rmX6_disagrees : Room := { frames := 3, cells := 0, slots := 0, locals := 70 }

set_option maxHeartbeats 40000000 in
set_option maxRecDepth 100000 in
theorem met_X6_disagrees (l : Launch) (D : va_G) (k : Nat → ClassId) (xL xS xB xV xC : Nat) (aU : Nat → Nat) (aI : Nat → Nat) (aF : Nat → Nat) (sz : Nat) (Uformulas : Nat → Option Nat) (Udrawn : Nat → Int32) (Umodels : Int32) (Iestimates : Nat → Int32) (Ivariances : Nat → Int32) (Isorts : Nat → Int32) (Iwidths : Nat → Int32) (Icounts : Nat → Int32) (Ireadings : Nat → Nat → Int32) (Ifirsts : Nat → Int32) (Iseconds : Nat → Int32) (Icovariances : Nat → Nat → Int32) (Fkinds : Nat → Int32) (Flefts : Nat → Int32) (Frights : Nat → Int32) (Fplaces : Nat → Int32) (Fvalues : Nat → Int64) (Fslopes : Nat → Int64) (Fexponents : Nat → Int32) (Fsize : Int32) (Froot : Int32) (v1 : Int32) (r : Int32) (RFexponents : Nat → Int32) (h : fX6_disagrees v1 Uformulas Ifirsts Iseconds Fkinds Flefts Frights Fplaces Fexponents Fsize Froot (aF 0) = some (r, RFexponents)) : Met l yX6_disagrees wsX6_disagrees rmX6_disagrees (va_Pc [.ref (aU 0), .int v1] (PreW D k ((wU k aU (aI 0) xL xS xB xV xC Uformulas Udrawn Umodels) ++ (wI k aI Iestimates Ivariances Isorts Iwidths Icounts Ireadings Ifirsts Iseconds Icovariances) ++ (wF k aF Fkinds Flefts Frights Fplaces Fvalues Fslopes Fexponents Fsize Froot)) sz)) (va_Qi (fun r9 (_ : Unit) => r9 = r) (fun _ t => PostW D k (va_A ((wU k aU (aI 0) xL xS xB xV xC Uformulas Udrawn Umodels) ++ (wI k aI Iestimates Ivariances Isorts Iwidths Icounts Ireadings Ifirsts Iseconds Icovariances) ++ (wF k aF Fkinds Flefts Frights Fplaces Fvalues Fslopes Fexponents Fsize Froot)) sz) ((wU k aU (aI 0) xL xS xB xV xC Uformulas Udrawn Umodels) ++ (wI k aI Iestimates Ivariances Isorts Iwidths Icounts Ireadings Ifirsts Iseconds Icovariances) ++ (wF k aF Fkinds Flefts Frights Fplaces Fvalues Fslopes RFexponents Fsize Froot)) t) (va_A ((wU k aU (aI 0) xL xS xB xV xC Uformulas Udrawn Umodels) ++ (wI k aI Iestimates Ivariances Isorts Iwidths Icounts Ireadings Ifirsts Iseconds Icovariances) ++ (wF k aF Fkinds Flefts Frights Fplaces Fvalues Fslopes Fexponents Fsize Froot)) sz)) 0 0 (va_A ((wU k aU (aI 0) xL xS xB xV xC Uformulas Udrawn Umodels) ++ (wI k aI Iestimates Ivariances Isorts Iwidths Icounts Ireadings Ifirsts Iseconds Icovariances) ++ (wF k aF Fkinds Flefts Frights Fplaces Fvalues Fslopes Fexponents Fsize Froot)) sz) := by
  refine Met.ofW (cc := cX6_disagrees) (maxL := 2) (ret := (some .int)) (by decide) rfl ?_
  intro p e s m args below meth c s₁ B hml hv
  obtain ⟨hav, hsz, hP, hK, hD0⟩ := hv
  have hx := B.exec
  have hb := B.bytes
  have hr := B.returns
  have hts := atoms_spec (ws := wsX6_disagrees) B.pre
  have hown : s.vm.findClass RX6 = some m.cls := findClass_of_methodNamed B.named
  have hlocks := B.notSynchronized
  subst hsz
  have hD := hD0.self (sz := s.heap.size)
  clear hD0
  generalize hAe : va_A ((wU k aU (aI 0) xL xS xB xV xC Uformulas Udrawn Umodels) ++ (wI k aI Iestimates Ivariances Isorts Iwidths Icounts Ireadings Ifirsts Iseconds Icovariances) ++ (wF k aF Fkinds Flefts Frights Fplaces Fvalues Fslopes Fexponents Fsize Froot)) s.heap.size = A at hD ⊢
  have hA : ∀ q : Nat, s.heap.size ≤ q → A q := fun q h => by rw [← hAe]; exact Or.inr h
  have hS : va_S A s.heap s.heap [] := va_S.rf
  have hl := lv_entry ([.ref (aU 0), .int v1]) (n := 2) (Nat.le_of_ble_eq_true rfl)
  rw [show entryFrame m args 2 = entryFrame m ([.ref (aU 0), .int v1] : List Value).toArray 2 from by rw [hav], lg_entry_eq]
  generalize (lg_sl ([.ref (aU 0), .int v1]) ++ List.replicate (2 - (lg_sl ([.ref (aU 0), .int v1])).length) Slot.unset).toArray = ls at hl ⊢
  replace hl : lv_has ls 2 [(0, .ref (aU 0)), (1, .int v1)] := hl
  have f10 := hts (.fieldLink RX6 10 "UncertainBook" "inputs" "LUncertainBook$Inputs;") (by decide +kernel)
  have f89 := hts (.fieldLink RX6 89 "UncertainBook$Inputs" "firsts" "[I") (by decide +kernel)
  have f92 := hts (.fieldLink RX6 92 "UncertainBook$Inputs" "seconds" "[I") (by decide +kernel)
  have iX4 : ∀ w ∈ u_ws RX4 TX4 9, w ∈ wsX6_disagrees := by decide +kernel
  have iX6 : ∀ w ∈ u_ws RX6 TX6 9, w ∈ wsX6_disagrees := by decide +kernel
  refine w_q (fun Q hQ => ?_)
  unfold fX6_disagrees at h
  show W p l e rmX6_disagrees s m args below meth c s.heap [] 0 0 Q (F0 m 0 ls [])
  suffices main : ∀ (H : Heap) (locs : List Loc) (ls : Array Slot), va_P D vwCl ((wU k aU (aI 0) xL xS xB xV xC Uformulas Udrawn Umodels) ++ (wI k aI Iestimates Ivariances Isorts Iwidths Icounts Ireadings Ifirsts Iseconds Icovariances) ++ (wF k aF Fkinds Flefts Frights Fplaces Fvalues Fslopes Fexponents Fsize Froot)) H → va_D A ((wU k aU (aI 0) xL xS xB xV xC Uformulas Udrawn Umodels) ++ (wI k aI Iestimates Ivariances Isorts Iwidths Icounts Ireadings Ifirsts Iseconds Icovariances) ++ (wF k aF Fkinds Flefts Frights Fplaces Fvalues Fslopes Fexponents Fsize Froot)) → va_S A s.heap H locs → lv_has ls 2 [(0, .ref (aU 0)), (1, .int v1)] → W p l e rmX6_disagrees s m args below meth c H locs 0 0 Q (F0 m 0 ls []) from main _ _ _ hP hD hS hl
  clear hP hD hS hl ls hAe
  intro H locs ls hP hD hS hl
  refine lv_aload_n hx hb dX6_disagrees_0 rfl (lv_at hl 0 rfl) ?_
  refine lv_iload_n hx hb dX6_disagrees_1 rfl (lv_at hl 1 rfl) ?_
  obtain ⟨hg1, h⟩ := gF_inv h
  have hPc := hP.sub (ws' := wU k aU (aI 0) xL xS xB xV xC Uformulas Udrawn Umodels) [0, 1, 2] rfl
  have hDc := hD.sub (ws' := wU k aU (aI 0) xL xS xB xV xC Uformulas Udrawn Umodels) [0, 1, 2] rfl rfl
  have hFc := va_free (wc := wU k aU (aI 0) xL xS xB xV xC Uformulas Udrawn Umodels) hD hS hA [0, 1, 2] rfl
  refine xc_r (va_runV (As := [.int v1]) (rest := []) ⟨hx, hb, hml, hown, hts⟩ (met_X6_formulaOf l D k aU (aI 0) xL xS xB xV xC H.size Uformulas Udrawn Umodels v1 _ hg1) (cwV 1 hts gX6_disagrees_X6_formulaOf rfl rfl rfl (by decide +kernel) ⟨Nat.le_of_ble_eq_true rfl, Nat.le_of_ble_eq_true rfl⟩) ⟨pw_blind, va_recv hK hPc (ci := 6) (q0 := 0) rfl rfl, pw_start hPc hK hDc⟩ rfl rfl hl.1 rfl (lv_room (Nat.le_of_ble_eq_true rfl)) dX6_disagrees_2 ⟨Nat.zero_le _, Nat.zero_le _⟩) hS hFc (fun H1 locs hP1 hD1 hk1 hS => ?_)
  obtain ⟨hP, hD⟩ := vk hP hD [0, 1, 2] rfl hk1 hP1
  clear hP1 hD1 hk1 hFc
  generalize H1 = H at hP hS ⊢
  refine lv_aload_n hx hb dX6_disagrees_5 rfl (lv_at hl 0 rfl) ?_
  refine va_get (D := D) (ci := 6) (v := .ref (aI 0)) (C := RX6) (T := TX6) (N := 9) hx hb hts iX6 hown hK hP 0 rfl rfl 0 (by decide) f10 (fun _ h9 => h9) rfl dX6_disagrees_6 ?_
  refine va_get (D := D) (ci := 4) (v := .ref (aI 13)) (C := RX4) (T := TX4) (N := 9) hx hb hts iX4 hown hK hP 3 rfl rfl 6 (by decide) f89 (fun _ h9 => h9) rfl dX6_disagrees_9 ?_
  refine lv_aload_n hx hb dX6_disagrees_12 rfl (lv_at hl 0 rfl) ?_
  refine va_get (D := D) (ci := 6) (v := .ref (aI 0)) (C := RX6) (T := TX6) (N := 9) hx hb hts iX6 hown hK hP 0 rfl rfl 0 (by decide) f10 (fun _ h9 => h9) rfl dX6_disagrees_13 ?_
  refine va_get (D := D) (ci := 4) (v := .ref (aI 14)) (C := RX4) (T := TX4) (N := 9) hx hb hts iX4 hown hK hP 3 rfl rfl 7 (by decide) f92 (fun _ h9 => h9) rfl dX6_disagrees_16 ?_
  obtain ⟨r2, exponents_2, hc2, h⟩ := bnd2_inv h
  have hPc := hP.sub (ws' := ((wF k aF Fkinds Flefts Frights Fplaces Fvalues Fslopes Fexponents Fsize Froot) ++ ([(aI 13, .inl (k 0, 6, .inl Ifirsts))]) ++ ([(aI 14, .inl (k 0, 6, .inl Iseconds))]))) [25, 26, 27, 28, 29, 30, 31, 32, 16, 17] rfl
  have hDc := hD.sub (ws' := ((wF k aF Fkinds Flefts Frights Fplaces Fvalues Fslopes Fexponents Fsize Froot) ++ ([(aI 13, .inl (k 0, 6, .inl Ifirsts))]) ++ ([(aI 14, .inl (k 0, 6, .inl Iseconds))]))) [25, 26, 27, 28, 29, 30, 31, 32, 16, 17] rfl rfl
  have hFc := va_free (wc := ((wF k aF Fkinds Flefts Frights Fplaces Fvalues Fslopes Fexponents Fsize Froot) ++ ([(aI 13, .inl (k 0, 6, .inl Ifirsts))]) ++ ([(aI 14, .inl (k 0, 6, .inl Iseconds))]))) hD hS hA [25, 26, 27, 28, 29, 30, 31, 32, 16, 17] rfl
  refine xc_i (va_runV (As := [.ref (aI 13), .ref (aI 14)]) (rest := []) ⟨hx, hb, hml, hown, hts⟩ (met_X3_findDisagreement l D k  aF (aI 13) (aI 14) H.size Fkinds Flefts Frights Fplaces Fvalues Fslopes Fexponents Fsize Froot Ifirsts Iseconds r2 exponents_2 hc2) (cwV 2 hts gX6_disagrees_X3_findDisagreement rfl rfl rfl (by decide +kernel) ⟨Nat.le_of_ble_eq_true rfl, Nat.le_of_ble_eq_true rfl⟩) ⟨pw_blind, va_recv hK hPc (ci := 3) (q0 := 0) rfl rfl, pw_start hPc hK hDc⟩ rfl rfl hl.1 rfl (lv_room (Nat.le_of_ble_eq_true rfl)) dX6_disagrees_19 ⟨Nat.zero_le _, Nat.zero_le _⟩) hS hFc (fun H1 locs hP1 hD1 hk1 hS => ?_)
  obtain ⟨hP, hD⟩ := vj (ws' := ((wU k aU (aI 0) xL xS xB xV xC Uformulas Udrawn Umodels) ++ (wI k aI Iestimates Ivariances Isorts Iwidths Icounts Ireadings Ifirsts Iseconds Icovariances) ++ (wF k aF Fkinds Flefts Frights Fplaces Fvalues Fslopes exponents_2 Fsize Froot))) (w1 := ((wF k aF Fkinds Flefts Frights Fplaces Fvalues Fslopes exponents_2 Fsize Froot) ++ ([(aI 13, .inl (k 0, 6, .inl Ifirsts))]) ++ ([(aI 14, .inl (k 0, 6, .inl Iseconds))]))) hP hD [25, 26, 27, 28, 29, 30, 31, 32, 16, 17] [0, 1, 2, 3, 4, 5, 6, 7, 8, 9, 10, 11, 12, 13, 14, 15, 18, 19, 20, 21, 22, 23, 24] [0, 1, 2, 3, 4, 5, 6, 7, 8, 9, 10, 11, 12, 13, 14, 15, 31, 32, 16, 17, 18, 19, 20, 21, 22, 23, 24, 25, 26, 27, 28, 29, 30] rfl rfl rfl rfl rfl hk1 hFc hP1 hD1
  clear hP1 hD1 hk1 hFc
  generalize H1 = H at hP hS ⊢
  have hP9 := hP
  have hD9 := hD
  have hS9 := hS
  subst hQ
  cases h
  exact W.iret hx hb hr (fun t ht hW => ⟨⟨_, (), rfl, rfl, by rw [ht]; exact hP9, va_K.moved hW.alike hK, hD9⟩, hS9.F ht⟩) hS9.2.2 dX6_disagrees_22
def fX6_value (v1 : Int32) (Uformulas : Nat → Option Nat) (Iestimates : Nat → Int32) (Fkinds : Nat → Int32) (Flefts : Nat → Int32) (Frights : Nat → Int32) (Fvalues : Nat → Int64) (Fsize : Int32) (Froot : Int32) (pF : Nat) : Option (Int64 × (Nat → Int64)) := gF Uformulas v1 pF (bnd2 (fX3_reckonBy Fkinds Flefts Frights Fvalues Fsize Froot Iestimates) (fun r2 values_2 => some (r2, values_2)))
abbrev rmX6_value : Room := { frames := 3, cells := 0, slots := 0, locals := 71 }

set_option maxHeartbeats 40000000 in
set_option maxRecDepth 100000 in
theorem met_X6_value (l : Launch) (D : va_G) (k : Nat → ClassId) (xL xS xB xV xC : Nat) (aU : Nat → Nat) (aI : Nat → Nat) (aF : Nat → Nat) (sz : Nat) (Uformulas : Nat → Option Nat) (Udrawn : Nat → Int32) (Umodels : Int32) (Iestimates : Nat → Int32) (Ivariances : Nat → Int32) (Isorts : Nat → Int32) (Iwidths : Nat → Int32) (Icounts : Nat → Int32) (Ireadings : Nat → Nat → Int32) (Ifirsts : Nat → Int32) (Iseconds : Nat → Int32) (Icovariances : Nat → Nat → Int32) (Fkinds : Nat → Int32) (Flefts : Nat → Int32) (Frights : Nat → Int32) (Fplaces : Nat → Int32) (Fvalues : Nat → Int64) (Fslopes : Nat → Int64) (Fexponents : Nat → Int32) (Fsize : Int32) (Froot : Int32) (v1 : Int32) (r : Int64) (RFvalues : Nat → Int64) (h : fX6_value v1 Uformulas Iestimates Fkinds Flefts Frights Fvalues Fsize Froot (aF 0) = some (r, RFvalues)) : Met l yX6_value wsX6_value rmX6_value (va_Pc [.ref (aU 0), .int v1] (PreW D k ((wU k aU (aI 0) xL xS xB xV xC Uformulas Udrawn Umodels) ++ (wI k aI Iestimates Ivariances Isorts Iwidths Icounts Ireadings Ifirsts Iseconds Icovariances) ++ (wF k aF Fkinds Flefts Frights Fplaces Fvalues Fslopes Fexponents Fsize Froot)) sz)) (va_Ql (fun r9 (_ : Unit) => r9 = r) (fun _ t => PostW D k (va_A ((wU k aU (aI 0) xL xS xB xV xC Uformulas Udrawn Umodels) ++ (wI k aI Iestimates Ivariances Isorts Iwidths Icounts Ireadings Ifirsts Iseconds Icovariances) ++ (wF k aF Fkinds Flefts Frights Fplaces Fvalues Fslopes Fexponents Fsize Froot)) sz) ((wU k aU (aI 0) xL xS xB xV xC Uformulas Udrawn Umodels) ++ (wI k aI Iestimates Ivariances Isorts Iwidths Icounts Ireadings Ifirsts Iseconds Icovariances) ++ (wF k aF Fkinds Flefts Frights Fplaces RFvalues Fslopes Fexponents Fsize Froot)) t) (va_A ((wU k aU (aI 0) xL xS xB xV xC Uformulas Udrawn Umodels) ++ (wI k aI Iestimates Ivariances Isorts Iwidths Icounts Ireadings Ifirsts Iseconds Icovariances) ++ (wF k aF Fkinds Flefts Frights Fplaces Fvalues Fslopes Fexponents Fsize Froot)) sz)) 0 0 (va_A ((wU k aU (aI 0) xL xS xB xV xC Uformulas Udrawn Umodels) ++ (wI k aI Iestimates Ivariances Isorts Iwidths Icounts Ireadings Ifirsts Iseconds Icovariances) ++ (wF k aF Fkinds Flefts Frights Fplaces Fvalues Fslopes Fexponents Fsize Froot)) sz) := by
  refine Met.ofW (cc := cX6_value) (maxL := 2) (ret := (some .long)) (by decide) rfl ?_
  intro p e s m args below meth c s₁ B hml hv
  obtain ⟨hav, hsz, hP, hK, hD0⟩ := hv
  have hx := B.exec
  have hb := B.bytes
  have hr := B.returns
  have hts := atoms_spec (ws := wsX6_value) B.pre
  have hown : s.vm.findClass RX6 = some m.cls := findClass_of_methodNamed B.named
  have hlocks := B.notSynchronized
  subst hsz
  have hD := hD0.self (sz := s.heap.size)
  clear hD0
  generalize hAe : va_A ((wU k aU (aI 0) xL xS xB xV xC Uformulas Udrawn Umodels) ++ (wI k aI Iestimates Ivariances Isorts Iwidths Icounts Ireadings Ifirsts Iseconds Icovariances) ++ (wF k aF Fkinds Flefts Frights Fplaces Fvalues Fslopes Fexponents Fsize Froot)) s.heap.size = A at hD ⊢
  have hA : ∀ q : Nat, s.heap.size ≤ q → A q := fun q h => by rw [← hAe]; exact Or.inr h
  have hS : va_S A s.heap s.heap [] := va_S.rf
  have hl := lv_entry ([.ref (aU 0), .int v1]) (n := 2) (Nat.le_of_ble_eq_true rfl)
  rw [show entryFrame m args 2 = entryFrame m ([.ref (aU 0), .int v1] : List Value).toArray 2 from by rw [hav], lg_entry_eq]
  generalize (lg_sl ([.ref (aU 0), .int v1]) ++ List.replicate (2 - (lg_sl ([.ref (aU 0), .int v1])).length) Slot.unset).toArray = ls at hl ⊢
  replace hl : lv_has ls 2 [(0, .ref (aU 0)), (1, .int v1)] := hl
  have f10 := hts (.fieldLink RX6 10 "UncertainBook" "inputs" "LUncertainBook$Inputs;") (by decide +kernel)
  have f108 := hts (.fieldLink RX6 108 "UncertainBook$Inputs" "estimates" "[I") (by decide +kernel)
  have iX4 : ∀ w ∈ u_ws RX4 TX4 9, w ∈ wsX6_value := by decide +kernel
  have iX6 : ∀ w ∈ u_ws RX6 TX6 9, w ∈ wsX6_value := by decide +kernel
  refine w_q (fun Q hQ => ?_)
  unfold fX6_value at h
  show W p l e rmX6_value s m args below meth c s.heap [] 0 0 Q (F0 m 0 ls [])
  suffices main : ∀ (H : Heap) (locs : List Loc) (ls : Array Slot), va_P D vwCl ((wU k aU (aI 0) xL xS xB xV xC Uformulas Udrawn Umodels) ++ (wI k aI Iestimates Ivariances Isorts Iwidths Icounts Ireadings Ifirsts Iseconds Icovariances) ++ (wF k aF Fkinds Flefts Frights Fplaces Fvalues Fslopes Fexponents Fsize Froot)) H → va_D A ((wU k aU (aI 0) xL xS xB xV xC Uformulas Udrawn Umodels) ++ (wI k aI Iestimates Ivariances Isorts Iwidths Icounts Ireadings Ifirsts Iseconds Icovariances) ++ (wF k aF Fkinds Flefts Frights Fplaces Fvalues Fslopes Fexponents Fsize Froot)) → va_S A s.heap H locs → lv_has ls 2 [(0, .ref (aU 0)), (1, .int v1)] → W p l e rmX6_value s m args below meth c H locs 0 0 Q (F0 m 0 ls []) from main _ _ _ hP hD hS hl
  clear hP hD hS hl ls hAe
  intro H locs ls hP hD hS hl
  refine lv_aload_n hx hb dX6_value_0 rfl (lv_at hl 0 rfl) ?_
  refine lv_iload_n hx hb dX6_value_1 rfl (lv_at hl 1 rfl) ?_
  obtain ⟨hg1, h⟩ := gF_inv h
  have hPc := hP.sub (ws' := wU k aU (aI 0) xL xS xB xV xC Uformulas Udrawn Umodels) [0, 1, 2] rfl
  have hDc := hD.sub (ws' := wU k aU (aI 0) xL xS xB xV xC Uformulas Udrawn Umodels) [0, 1, 2] rfl rfl
  have hFc := va_free (wc := wU k aU (aI 0) xL xS xB xV xC Uformulas Udrawn Umodels) hD hS hA [0, 1, 2] rfl
  refine xc_r (va_runV (As := [.int v1]) (rest := []) ⟨hx, hb, hml, hown, hts⟩ (met_X6_formulaOf l D k aU (aI 0) xL xS xB xV xC H.size Uformulas Udrawn Umodels v1 _ hg1) (cwV 1 hts gX6_value_X6_formulaOf rfl rfl rfl (by decide +kernel) ⟨Nat.le_of_ble_eq_true rfl, Nat.le_of_ble_eq_true rfl⟩) ⟨pw_blind, va_recv hK hPc (ci := 6) (q0 := 0) rfl rfl, pw_start hPc hK hDc⟩ rfl rfl hl.1 rfl (lv_room (Nat.le_of_ble_eq_true rfl)) dX6_value_2 ⟨Nat.zero_le _, Nat.zero_le _⟩) hS hFc (fun H1 locs hP1 hD1 hk1 hS => ?_)
  obtain ⟨hP, hD⟩ := vk hP hD [0, 1, 2] rfl hk1 hP1
  clear hP1 hD1 hk1 hFc
  generalize H1 = H at hP hS ⊢
  refine lv_aload_n hx hb dX6_value_5 rfl (lv_at hl 0 rfl) ?_
  refine va_get (D := D) (ci := 6) (v := .ref (aI 0)) (C := RX6) (T := TX6) (N := 9) hx hb hts iX6 hown hK hP 0 rfl rfl 0 (by decide) f10 (fun _ h9 => h9) rfl dX6_value_6 ?_
  refine va_get (D := D) (ci := 4) (v := .ref (aI 1)) (C := RX4) (T := TX4) (N := 9) hx hb hts iX4 hown hK hP 3 rfl rfl 0 (by decide) f108 (fun _ h9 => h9) rfl dX6_value_9 ?_
  obtain ⟨r2, values_2, hc2, h⟩ := bnd2_inv h
  have hPc := hP.sub (ws' := ((wF k aF Fkinds Flefts Frights Fplaces Fvalues Fslopes Fexponents Fsize Froot) ++ ([(aI 1, .inl (k 0, 6, .inl Iestimates))]))) [25, 26, 27, 28, 29, 30, 31, 32, 4] rfl
  have hDc := hD.sub (ws' := ((wF k aF Fkinds Flefts Frights Fplaces Fvalues Fslopes Fexponents Fsize Froot) ++ ([(aI 1, .inl (k 0, 6, .inl Iestimates))]))) [25, 26, 27, 28, 29, 30, 31, 32, 4] rfl rfl
  have hFc := va_free (wc := ((wF k aF Fkinds Flefts Frights Fplaces Fvalues Fslopes Fexponents Fsize Froot) ++ ([(aI 1, .inl (k 0, 6, .inl Iestimates))]))) hD hS hA [25, 26, 27, 28, 29, 30, 31, 32, 4] rfl
  refine xc_l (va_runV (As := [.ref (aI 1)]) (rest := []) ⟨hx, hb, hml, hown, hts⟩ (met_X3_reckonBy l D k  aF (aI 1) H.size Fkinds Flefts Frights Fplaces Fvalues Fslopes Fexponents Fsize Froot Iestimates r2 values_2 hc2) (cwV 1 hts gX6_value_X3_reckonBy rfl rfl rfl (by decide +kernel) ⟨Nat.le_of_ble_eq_true rfl, Nat.le_of_ble_eq_true rfl⟩) ⟨pw_blind, va_recv hK hPc (ci := 3) (q0 := 0) rfl rfl, pw_start hPc hK hDc⟩ rfl rfl hl.1 rfl (lv_room (Nat.le_of_ble_eq_true rfl)) dX6_value_12 ⟨Nat.zero_le _, Nat.zero_le _⟩) hS hFc (fun H1 locs hP1 hD1 hk1 hS => ?_)
  obtain ⟨hP, hD⟩ := vj (ws' := ((wU k aU (aI 0) xL xS xB xV xC Uformulas Udrawn Umodels) ++ (wI k aI Iestimates Ivariances Isorts Iwidths Icounts Ireadings Ifirsts Iseconds Icovariances) ++ (wF k aF Fkinds Flefts Frights Fplaces values_2 Fslopes Fexponents Fsize Froot))) (w1 := ((wF k aF Fkinds Flefts Frights Fplaces values_2 Fslopes Fexponents Fsize Froot) ++ ([(aI 1, .inl (k 0, 6, .inl Iestimates))]))) hP hD [25, 26, 27, 28, 29, 30, 31, 32, 4] [0, 1, 2, 3, 5, 6, 7, 8, 9, 10, 11, 12, 13, 14, 15, 16, 17, 18, 19, 20, 21, 22, 23, 24] [0, 1, 2, 3, 32, 4, 5, 6, 7, 8, 9, 10, 11, 12, 13, 14, 15, 16, 17, 18, 19, 20, 21, 22, 23, 24, 25, 26, 27, 28, 29, 30, 31] rfl rfl rfl rfl rfl hk1 hFc hP1 hD1
  clear hP1 hD1 hk1 hFc
  generalize H1 = H at hP hS ⊢
  have hP9 := hP
  have hD9 := hD
  have hS9 := hS
  subst hQ
  cases h
  exact W.lret hx hb hr (fun t ht hW => ⟨⟨_, (), rfl, rfl, by rw [ht]; exact hP9, va_K.moved hW.alike hK, hD9⟩, hS9.F ht⟩) hS9.2.2 dX6_value_15
def fX6_sensitivity (v1 : Int32) (v2 : Int32) (Uformulas : Nat → Option Nat) (Iestimates : Nat → Int32) (Fkinds : Nat → Int32) (Flefts : Nat → Int32) (Frights : Nat → Int32) (Fvalues : Nat → Int64) (Fslopes : Nat → Int64) (Fsize : Int32) (Froot : Int32) (pF : Nat) : Option (Int64 × (Nat → Int64) × (Nat → Int64)) := gF Uformulas v1 pF (bnd0 (fX6_checkInput v2) (bnd3 (fX3_slopeForward v2 Fkinds Flefts Frights Fvalues Fslopes Fsize Froot Iestimates) (fun r3 values_3 slopes_3 => some (r3, values_3, slopes_3))))
abbrev rmX6_sensitivity : Room := { frames := 4, cells := 0, slots := 0, locals := 94 }

set_option maxHeartbeats 40000000 in
set_option maxRecDepth 100000 in
theorem met_X6_sensitivity (l : Launch) (D : va_G) (k : Nat → ClassId) (xL xS xB xV xC : Nat) (aU : Nat → Nat) (aI : Nat → Nat) (aF : Nat → Nat) (sz : Nat) (Uformulas : Nat → Option Nat) (Udrawn : Nat → Int32) (Umodels : Int32) (Iestimates : Nat → Int32) (Ivariances : Nat → Int32) (Isorts : Nat → Int32) (Iwidths : Nat → Int32) (Icounts : Nat → Int32) (Ireadings : Nat → Nat → Int32) (Ifirsts : Nat → Int32) (Iseconds : Nat → Int32) (Icovariances : Nat → Nat → Int32) (Fkinds : Nat → Int32) (Flefts : Nat → Int32) (Frights : Nat → Int32) (Fplaces : Nat → Int32) (Fvalues : Nat → Int64) (Fslopes : Nat → Int64) (Fexponents : Nat → Int32) (Fsize : Int32) (Froot : Int32) (v1 : Int32) (v2 : Int32) (r : Int64) (RFvalues : Nat → Int64) (RFslopes : Nat → Int64) (h : fX6_sensitivity v1 v2 Uformulas Iestimates Fkinds Flefts Frights Fvalues Fslopes Fsize Froot (aF 0) = some (r, RFvalues, RFslopes)) : Met l yX6_sensitivity wsX6_sensitivity rmX6_sensitivity (va_Pc [.ref (aU 0), .int v1, .int v2] (PreW D k ((wU k aU (aI 0) xL xS xB xV xC Uformulas Udrawn Umodels) ++ (wI k aI Iestimates Ivariances Isorts Iwidths Icounts Ireadings Ifirsts Iseconds Icovariances) ++ (wF k aF Fkinds Flefts Frights Fplaces Fvalues Fslopes Fexponents Fsize Froot)) sz)) (va_Ql (fun r9 (_ : Unit) => r9 = r) (fun _ t => PostW D k (va_A ((wU k aU (aI 0) xL xS xB xV xC Uformulas Udrawn Umodels) ++ (wI k aI Iestimates Ivariances Isorts Iwidths Icounts Ireadings Ifirsts Iseconds Icovariances) ++ (wF k aF Fkinds Flefts Frights Fplaces Fvalues Fslopes Fexponents Fsize Froot)) sz) ((wU k aU (aI 0) xL xS xB xV xC Uformulas Udrawn Umodels) ++ (wI k aI Iestimates Ivariances Isorts Iwidths Icounts Ireadings Ifirsts Iseconds Icovariances) ++ (wF k aF Fkinds Flefts Frights Fplaces RFvalues RFslopes Fexponents Fsize Froot)) t) (va_A ((wU k aU (aI 0) xL xS xB xV xC Uformulas Udrawn Umodels) ++ (wI k aI Iestimates Ivariances Isorts Iwidths Icounts Ireadings Ifirsts Iseconds Icovariances) ++ (wF k aF Fkinds Flefts Frights Fplaces Fvalues Fslopes Fexponents Fsize Froot)) sz)) 0 0 (va_A ((wU k aU (aI 0) xL xS xB xV xC Uformulas Udrawn Umodels) ++ (wI k aI Iestimates Ivariances Isorts Iwidths Icounts Ireadings Ifirsts Iseconds Icovariances) ++ (wF k aF Fkinds Flefts Frights Fplaces Fvalues Fslopes Fexponents Fsize Froot)) sz) := by
  refine Met.ofW (cc := cX6_sensitivity) (maxL := 4) (ret := (some .long)) (by decide) rfl ?_
  intro p e s m args below meth c s₁ B hml hv
  obtain ⟨hav, hsz, hP, hK, hD0⟩ := hv
  have hx := B.exec
  have hb := B.bytes
  have hr := B.returns
  have hts := atoms_spec (ws := wsX6_sensitivity) B.pre
  have hown : s.vm.findClass RX6 = some m.cls := findClass_of_methodNamed B.named
  have hlocks := B.notSynchronized
  subst hsz
  have hD := hD0.self (sz := s.heap.size)
  clear hD0
  generalize hAe : va_A ((wU k aU (aI 0) xL xS xB xV xC Uformulas Udrawn Umodels) ++ (wI k aI Iestimates Ivariances Isorts Iwidths Icounts Ireadings Ifirsts Iseconds Icovariances) ++ (wF k aF Fkinds Flefts Frights Fplaces Fvalues Fslopes Fexponents Fsize Froot)) s.heap.size = A at hD ⊢
  have hA : ∀ q : Nat, s.heap.size ≤ q → A q := fun q h => by rw [← hAe]; exact Or.inr h
  have hS : va_S A s.heap s.heap [] := va_S.rf
  have hl := lv_entry ([.ref (aU 0), .int v1, .int v2]) (n := 4) (Nat.le_of_ble_eq_true rfl)
  rw [show entryFrame m args 4 = entryFrame m ([.ref (aU 0), .int v1, .int v2] : List Value).toArray 4 from by rw [hav], lg_entry_eq]
  generalize (lg_sl ([.ref (aU 0), .int v1, .int v2]) ++ List.replicate (4 - (lg_sl ([.ref (aU 0), .int v1, .int v2])).length) Slot.unset).toArray = ls at hl ⊢
  replace hl : lv_has ls 4 [(0, .ref (aU 0)), (1, .int v1), (2, .int v2)] := hl
  have f10 := hts (.fieldLink RX6 10 "UncertainBook" "inputs" "LUncertainBook$Inputs;") (by decide +kernel)
  have f108 := hts (.fieldLink RX6 108 "UncertainBook$Inputs" "estimates" "[I") (by decide +kernel)
  have iX4 : ∀ w ∈ u_ws RX4 TX4 9, w ∈ wsX6_sensitivity := by decide +kernel
  have iX6 : ∀ w ∈ u_ws RX6 TX6 9, w ∈ wsX6_sensitivity := by decide +kernel
  refine w_q (fun Q hQ => ?_)
  unfold fX6_sensitivity at h
  show W p l e rmX6_sensitivity s m args below meth c s.heap [] 0 0 Q (F0 m 0 ls [])
  suffices main : ∀ (H : Heap) (locs : List Loc) (ls : Array Slot), va_P D vwCl ((wU k aU (aI 0) xL xS xB xV xC Uformulas Udrawn Umodels) ++ (wI k aI Iestimates Ivariances Isorts Iwidths Icounts Ireadings Ifirsts Iseconds Icovariances) ++ (wF k aF Fkinds Flefts Frights Fplaces Fvalues Fslopes Fexponents Fsize Froot)) H → va_D A ((wU k aU (aI 0) xL xS xB xV xC Uformulas Udrawn Umodels) ++ (wI k aI Iestimates Ivariances Isorts Iwidths Icounts Ireadings Ifirsts Iseconds Icovariances) ++ (wF k aF Fkinds Flefts Frights Fplaces Fvalues Fslopes Fexponents Fsize Froot)) → va_S A s.heap H locs → lv_has ls 4 [(0, .ref (aU 0)), (1, .int v1), (2, .int v2)] → W p l e rmX6_sensitivity s m args below meth c H locs 0 0 Q (F0 m 0 ls []) from main _ _ _ hP hD hS hl
  clear hP hD hS hl ls hAe
  intro H locs ls hP hD hS hl
  refine lv_aload_n hx hb dX6_sensitivity_0 rfl (lv_at hl 0 rfl) ?_
  refine lv_iload_n hx hb dX6_sensitivity_1 rfl (lv_at hl 1 rfl) ?_
  obtain ⟨hg1, h⟩ := gF_inv h
  have hPc := hP.sub (ws' := wU k aU (aI 0) xL xS xB xV xC Uformulas Udrawn Umodels) [0, 1, 2] rfl
  have hDc := hD.sub (ws' := wU k aU (aI 0) xL xS xB xV xC Uformulas Udrawn Umodels) [0, 1, 2] rfl rfl
  have hFc := va_free (wc := wU k aU (aI 0) xL xS xB xV xC Uformulas Udrawn Umodels) hD hS hA [0, 1, 2] rfl
  refine xc_r (va_runV (As := [.int v1]) (rest := []) ⟨hx, hb, hml, hown, hts⟩ (met_X6_formulaOf l D k aU (aI 0) xL xS xB xV xC H.size Uformulas Udrawn Umodels v1 _ hg1) (cwV 1 hts gX6_sensitivity_X6_formulaOf rfl rfl rfl (by decide +kernel) ⟨Nat.le_of_ble_eq_true rfl, Nat.le_of_ble_eq_true rfl⟩) ⟨pw_blind, va_recv hK hPc (ci := 6) (q0 := 0) rfl rfl, pw_start hPc hK hDc⟩ rfl rfl hl.1 rfl (lv_room (Nat.le_of_ble_eq_true rfl)) dX6_sensitivity_2 ⟨Nat.zero_le _, Nat.zero_le _⟩) hS hFc (fun H1 locs hP1 hD1 hk1 hS => ?_)
  obtain ⟨hP, hD⟩ := vk hP hD [0, 1, 2] rfl hk1 hP1
  clear hP1 hD1 hk1 hFc
  generalize H1 = H at hP hS ⊢
  refine lv_astore_n (lv' := [(3, .ref (aF 0)), (0, .ref (aU 0)), (1, .int v1), (2, .int v2)]) hx hb dX6_sensitivity_5 rfl hl (by decide) rfl (fun ls hl => ?_)
  refine lv_iload_n hx hb dX6_sensitivity_6 rfl (lv_at hl 3 rfl) ?_
  obtain ⟨hc2, h⟩ := bnd0_inv h
  have hPc := hP.sub (ws' := ([] : va_W)) [] rfl
  have hDc := hD.sub (ws' := ([] : va_W)) [] rfl rfl
  have hFc := va_free (wc := ([] : va_W)) hD hS hA [] rfl
  refine xc_v (va_runS (As := [.int v2]) (rest := []) ⟨hx, hb, hml, hown, hts⟩ (met_X6_checkInput l D k  H.size v2 hc2) (va_cwS 1 hts gX6_sensitivity_X6_checkInput rfl rfl rfl (by decide +kernel) ⟨Nat.le_of_ble_eq_true rfl, Nat.le_of_ble_eq_true rfl⟩) ⟨pw_blind, pw_start hPc hK hDc⟩ rfl rfl hl.1 rfl (lv_room (Nat.le_of_ble_eq_true rfl)) dX6_sensitivity_7 ⟨Nat.zero_le _, Nat.zero_le _⟩) hS hFc (fun H1 locs hP1 hD1 hk1 hS => ?_)
  obtain ⟨hP, hD⟩ := vk hP hD [] rfl hk1 hP1
  clear hP1 hD1 hk1 hFc
  generalize H1 = H at hP hS ⊢
  refine lv_aload_n hx hb dX6_sensitivity_10 rfl (lv_at hl 0 rfl) ?_
  refine lv_aload_n hx hb dX6_sensitivity_11 rfl (lv_at hl 1 rfl) ?_
  refine va_get (D := D) (ci := 6) (v := .ref (aI 0)) (C := RX6) (T := TX6) (N := 9) hx hb hts iX6 hown hK hP 0 rfl rfl 0 (by decide) f10 (fun _ h9 => h9) rfl dX6_sensitivity_12 ?_
  refine va_get (D := D) (ci := 4) (v := .ref (aI 1)) (C := RX4) (T := TX4) (N := 9) hx hb hts iX4 hown hK hP 3 rfl rfl 0 (by decide) f108 (fun _ h9 => h9) rfl dX6_sensitivity_15 ?_
  refine lv_iload_n hx hb dX6_sensitivity_18 rfl (lv_at hl 3 rfl) ?_
  obtain ⟨r3, values_3, slopes_3, hc3, h⟩ := bnd3_inv h
  have hPc := hP.sub (ws' := ((wF k aF Fkinds Flefts Frights Fplaces Fvalues Fslopes Fexponents Fsize Froot) ++ ([(aI 1, .inl (k 0, 6, .inl Iestimates))]))) [25, 26, 27, 28, 29, 30, 31, 32, 4] rfl
  have hDc := hD.sub (ws' := ((wF k aF Fkinds Flefts Frights Fplaces Fvalues Fslopes Fexponents Fsize Froot) ++ ([(aI 1, .inl (k 0, 6, .inl Iestimates))]))) [25, 26, 27, 28, 29, 30, 31, 32, 4] rfl rfl
  have hFc := va_free (wc := ((wF k aF Fkinds Flefts Frights Fplaces Fvalues Fslopes Fexponents Fsize Froot) ++ ([(aI 1, .inl (k 0, 6, .inl Iestimates))]))) hD hS hA [25, 26, 27, 28, 29, 30, 31, 32, 4] rfl
  refine xc_l (va_runV (As := [.ref (aI 1), .int v2]) (rest := []) ⟨hx, hb, hml, hown, hts⟩ (met_X3_slopeForward l D k  aF (aI 1) H.size Fkinds Flefts Frights Fplaces Fvalues Fslopes Fexponents Fsize Froot Iestimates v2 r3 values_3 slopes_3 hc3) (cwV 2 hts gX6_sensitivity_X3_slopeForward rfl rfl rfl (by decide +kernel) ⟨Nat.le_of_ble_eq_true rfl, Nat.le_of_ble_eq_true rfl⟩) ⟨pw_blind, va_recv hK hPc (ci := 3) (q0 := 0) rfl rfl, pw_start hPc hK hDc⟩ rfl rfl hl.1 rfl (lv_room (Nat.le_of_ble_eq_true rfl)) dX6_sensitivity_19 ⟨Nat.zero_le _, Nat.zero_le _⟩) hS hFc (fun H1 locs hP1 hD1 hk1 hS => ?_)
  obtain ⟨hP, hD⟩ := vj (ws' := ((wU k aU (aI 0) xL xS xB xV xC Uformulas Udrawn Umodels) ++ (wI k aI Iestimates Ivariances Isorts Iwidths Icounts Ireadings Ifirsts Iseconds Icovariances) ++ (wF k aF Fkinds Flefts Frights Fplaces values_3 slopes_3 Fexponents Fsize Froot))) (w1 := ((wF k aF Fkinds Flefts Frights Fplaces values_3 slopes_3 Fexponents Fsize Froot) ++ ([(aI 1, .inl (k 0, 6, .inl Iestimates))]))) hP hD [25, 26, 27, 28, 29, 30, 31, 32, 4] [0, 1, 2, 3, 5, 6, 7, 8, 9, 10, 11, 12, 13, 14, 15, 16, 17, 18, 19, 20, 21, 22, 23, 24] [0, 1, 2, 3, 32, 4, 5, 6, 7, 8, 9, 10, 11, 12, 13, 14, 15, 16, 17, 18, 19, 20, 21, 22, 23, 24, 25, 26, 27, 28, 29, 30, 31] rfl rfl rfl rfl rfl hk1 hFc hP1 hD1
  clear hP1 hD1 hk1 hFc
  generalize H1 = H at hP hS ⊢
  have hP9 := hP
  have hD9 := hD
  have hS9 := hS
  subst hQ
  cases h
  exact W.lret hx hb hr (fun t ht hW => ⟨⟨_, (), rfl, rfl, by rw [ht]; exact hP9, va_K.moved hW.alike hK, hD9⟩, hS9.F ht⟩) hS9.2.2 dX6_sensitivity_22
def fX6_sensitivityAnew (v1 : Int32) (v2 : Int32) (Uformulas : Nat → Option Nat) (Iestimates : Nat → Int32) (Fkinds : Nat → Int32) (Flefts : Nat → Int32) (Frights : Nat → Int32) (Fvalues : Nat → Int64) (Fslopes : Nat → Int64) (Fsize : Int32) (Froot : Int32) (Bslopes : Nat → Int64) (pF : Nat) : Option (Int64 × (Nat → Int64) × (Nat → Int64) × (Nat → Int64)) := gF Uformulas v1 pF (bnd0 (fX6_checkInput v2) (bnd3 (fX3_slopesBackward Fkinds Flefts Frights Fvalues Fslopes Fsize Froot Iestimates Bslopes) (fun values_3 slopes_3 wA_3 => gi v2 6 (some (wA_3 v2.toNatClampNeg, values_3, slopes_3, wA_3)))))
abbrev rmX6_sensitivityAnew : Room := { frames := 4, cells := 0, slots := 0, locals := 95 }

set_option maxHeartbeats 40000000 in
set_option maxRecDepth 100000 in
theorem met_X6_sensitivityAnew (l : Launch) (D : va_G) (k : Nat → ClassId) (xL xS xV xC : Nat) (aU : Nat → Nat) (aI : Nat → Nat) (aF : Nat → Nat) (aB : Nat → Nat) (sz : Nat) (Uformulas : Nat → Option Nat) (Udrawn : Nat → Int32) (Umodels : Int32) (Iestimates : Nat → Int32) (Ivariances : Nat → Int32) (Isorts : Nat → Int32) (Iwidths : Nat → Int32) (Icounts : Nat → Int32) (Ireadings : Nat → Nat → Int32) (Ifirsts : Nat → Int32) (Iseconds : Nat → Int32) (Icovariances : Nat → Nat → Int32) (Fkinds : Nat → Int32) (Flefts : Nat → Int32) (Frights : Nat → Int32) (Fplaces : Nat → Int32) (Fvalues : Nat → Int64) (Fslopes : Nat → Int64) (Fexponents : Nat → Int32) (Fsize : Int32) (Froot : Int32) (Bslopes : Nat → Int64) (Bcontributions : Nat → Int64) (Bvariance : Int64) (BdegreesSum : Int64) (v1 : Int32) (v2 : Int32) (r : Int64) (RFvalues : Nat → Int64) (RFslopes : Nat → Int64) (RBslopes : Nat → Int64) (h : fX6_sensitivityAnew v1 v2 Uformulas Iestimates Fkinds Flefts Frights Fvalues Fslopes Fsize Froot Bslopes (aF 0) = some (r, RFvalues, RFslopes, RBslopes)) : Met l yX6_sensitivityAnew wsX6_sensitivityAnew rmX6_sensitivityAnew (va_Pc [.ref (aU 0), .int v1, .int v2] (PreW D k ((wU k aU (aI 0) xL xS (aB 0) xV xC Uformulas Udrawn Umodels) ++ (wI k aI Iestimates Ivariances Isorts Iwidths Icounts Ireadings Ifirsts Iseconds Icovariances) ++ (wF k aF Fkinds Flefts Frights Fplaces Fvalues Fslopes Fexponents Fsize Froot) ++ (wB k aB Bslopes Bcontributions Bvariance BdegreesSum)) sz)) (va_Ql (fun r9 (_ : Unit) => r9 = r) (fun _ t => PostW D k (va_A ((wU k aU (aI 0) xL xS (aB 0) xV xC Uformulas Udrawn Umodels) ++ (wI k aI Iestimates Ivariances Isorts Iwidths Icounts Ireadings Ifirsts Iseconds Icovariances) ++ (wF k aF Fkinds Flefts Frights Fplaces Fvalues Fslopes Fexponents Fsize Froot) ++ (wB k aB Bslopes Bcontributions Bvariance BdegreesSum)) sz) ((wU k aU (aI 0) xL xS (aB 0) xV xC Uformulas Udrawn Umodels) ++ (wI k aI Iestimates Ivariances Isorts Iwidths Icounts Ireadings Ifirsts Iseconds Icovariances) ++ (wF k aF Fkinds Flefts Frights Fplaces RFvalues RFslopes Fexponents Fsize Froot) ++ (wB k aB RBslopes Bcontributions Bvariance BdegreesSum)) t) (va_A ((wU k aU (aI 0) xL xS (aB 0) xV xC Uformulas Udrawn Umodels) ++ (wI k aI Iestimates Ivariances Isorts Iwidths Icounts Ireadings Ifirsts Iseconds Icovariances) ++ (wF k aF Fkinds Flefts Frights Fplaces Fvalues Fslopes Fexponents Fsize Froot) ++ (wB k aB Bslopes Bcontributions Bvariance BdegreesSum)) sz)) 0 0 (va_A ((wU k aU (aI 0) xL xS (aB 0) xV xC Uformulas Udrawn Umodels) ++ (wI k aI Iestimates Ivariances Isorts Iwidths Icounts Ireadings Ifirsts Iseconds Icovariances) ++ (wF k aF Fkinds Flefts Frights Fplaces Fvalues Fslopes Fexponents Fsize Froot) ++ (wB k aB Bslopes Bcontributions Bvariance BdegreesSum)) sz) := by
  refine Met.ofW (cc := cX6_sensitivityAnew) (maxL := 4) (ret := (some .long)) (by decide) rfl ?_
  intro p e s m args below meth c s₁ B hml hv
  obtain ⟨hav, hsz, hP, hK, hD0⟩ := hv
  have hx := B.exec
  have hb := B.bytes
  have hr := B.returns
  have hts := atoms_spec (ws := wsX6_sensitivityAnew) B.pre
  have hown : s.vm.findClass RX6 = some m.cls := findClass_of_methodNamed B.named
  have hlocks := B.notSynchronized
  subst hsz
  have hD := hD0.self (sz := s.heap.size)
  clear hD0
  generalize hAe : va_A ((wU k aU (aI 0) xL xS (aB 0) xV xC Uformulas Udrawn Umodels) ++ (wI k aI Iestimates Ivariances Isorts Iwidths Icounts Ireadings Ifirsts Iseconds Icovariances) ++ (wF k aF Fkinds Flefts Frights Fplaces Fvalues Fslopes Fexponents Fsize Froot) ++ (wB k aB Bslopes Bcontributions Bvariance BdegreesSum)) s.heap.size = A at hD ⊢
  have hA : ∀ q : Nat, s.heap.size ≤ q → A q := fun q h => by rw [← hAe]; exact Or.inr h
  have hS : va_S A s.heap s.heap [] := va_S.rf
  have hl := lv_entry ([.ref (aU 0), .int v1, .int v2]) (n := 4) (Nat.le_of_ble_eq_true rfl)
  rw [show entryFrame m args 4 = entryFrame m ([.ref (aU 0), .int v1, .int v2] : List Value).toArray 4 from by rw [hav], lg_entry_eq]
  generalize (lg_sl ([.ref (aU 0), .int v1, .int v2]) ++ List.replicate (4 - (lg_sl ([.ref (aU 0), .int v1, .int v2])).length) Slot.unset).toArray = ls at hl ⊢
  replace hl : lv_has ls 4 [(0, .ref (aU 0)), (1, .int v1), (2, .int v2)] := hl
  have f10 := hts (.fieldLink RX6 10 "UncertainBook" "inputs" "LUncertainBook$Inputs;") (by decide +kernel)
  have f41 := hts (.fieldLink RX6 41 "UncertainBook" "figures" "LUncertainBook$Budget;") (by decide +kernel)
  have f108 := hts (.fieldLink RX6 108 "UncertainBook$Inputs" "estimates" "[I") (by decide +kernel)
  have f173 := hts (.fieldLink RX6 173 "UncertainBook$Budget" "slopes" "[J") (by decide +kernel)
  have iX0 : ∀ w ∈ u_ws RX0 TX0 4, w ∈ wsX6_sensitivityAnew := by decide +kernel
  have iX4 : ∀ w ∈ u_ws RX4 TX4 9, w ∈ wsX6_sensitivityAnew := by decide +kernel
  have iX6 : ∀ w ∈ u_ws RX6 TX6 9, w ∈ wsX6_sensitivityAnew := by decide +kernel
  refine w_q (fun Q hQ => ?_)
  unfold fX6_sensitivityAnew at h
  show W p l e rmX6_sensitivityAnew s m args below meth c s.heap [] 0 0 Q (F0 m 0 ls [])
  suffices main : ∀ (H : Heap) (locs : List Loc) (ls : Array Slot), va_P D vwCl ((wU k aU (aI 0) xL xS (aB 0) xV xC Uformulas Udrawn Umodels) ++ (wI k aI Iestimates Ivariances Isorts Iwidths Icounts Ireadings Ifirsts Iseconds Icovariances) ++ (wF k aF Fkinds Flefts Frights Fplaces Fvalues Fslopes Fexponents Fsize Froot) ++ (wB k aB Bslopes Bcontributions Bvariance BdegreesSum)) H → va_D A ((wU k aU (aI 0) xL xS (aB 0) xV xC Uformulas Udrawn Umodels) ++ (wI k aI Iestimates Ivariances Isorts Iwidths Icounts Ireadings Ifirsts Iseconds Icovariances) ++ (wF k aF Fkinds Flefts Frights Fplaces Fvalues Fslopes Fexponents Fsize Froot) ++ (wB k aB Bslopes Bcontributions Bvariance BdegreesSum)) → va_S A s.heap H locs → lv_has ls 4 [(0, .ref (aU 0)), (1, .int v1), (2, .int v2)] → W p l e rmX6_sensitivityAnew s m args below meth c H locs 0 0 Q (F0 m 0 ls []) from main _ _ _ hP hD hS hl
  clear hP hD hS hl ls hAe
  intro H locs ls hP hD hS hl
  refine lv_aload_n hx hb dX6_sensitivityAnew_0 rfl (lv_at hl 0 rfl) ?_
  refine lv_iload_n hx hb dX6_sensitivityAnew_1 rfl (lv_at hl 1 rfl) ?_
  obtain ⟨hg1, h⟩ := gF_inv h
  have hPc := hP.sub (ws' := wU k aU (aI 0) xL xS (aB 0) xV xC Uformulas Udrawn Umodels) [0, 1, 2] rfl
  have hDc := hD.sub (ws' := wU k aU (aI 0) xL xS (aB 0) xV xC Uformulas Udrawn Umodels) [0, 1, 2] rfl rfl
  have hFc := va_free (wc := wU k aU (aI 0) xL xS (aB 0) xV xC Uformulas Udrawn Umodels) hD hS hA [0, 1, 2] rfl
  refine xc_r (va_runV (As := [.int v1]) (rest := []) ⟨hx, hb, hml, hown, hts⟩ (met_X6_formulaOf l D k aU (aI 0) xL xS (aB 0) xV xC H.size Uformulas Udrawn Umodels v1 _ hg1) (cwV 1 hts gX6_sensitivityAnew_X6_formulaOf rfl rfl rfl (by decide +kernel) ⟨Nat.le_of_ble_eq_true rfl, Nat.le_of_ble_eq_true rfl⟩) ⟨pw_blind, va_recv hK hPc (ci := 6) (q0 := 0) rfl rfl, pw_start hPc hK hDc⟩ rfl rfl hl.1 rfl (lv_room (Nat.le_of_ble_eq_true rfl)) dX6_sensitivityAnew_2 ⟨Nat.zero_le _, Nat.zero_le _⟩) hS hFc (fun H1 locs hP1 hD1 hk1 hS => ?_)
  obtain ⟨hP, hD⟩ := vk hP hD [0, 1, 2] rfl hk1 hP1
  clear hP1 hD1 hk1 hFc
  generalize H1 = H at hP hS ⊢
  refine lv_astore_n (lv' := [(3, .ref (aF 0)), (0, .ref (aU 0)), (1, .int v1), (2, .int v2)]) hx hb dX6_sensitivityAnew_5 rfl hl (by decide) rfl (fun ls hl => ?_)
  refine lv_iload_n hx hb dX6_sensitivityAnew_6 rfl (lv_at hl 3 rfl) ?_
  obtain ⟨hc2, h⟩ := bnd0_inv h
  have hPc := hP.sub (ws' := ([] : va_W)) [] rfl
  have hDc := hD.sub (ws' := ([] : va_W)) [] rfl rfl
  have hFc := va_free (wc := ([] : va_W)) hD hS hA [] rfl
  refine xc_v (va_runS (As := [.int v2]) (rest := []) ⟨hx, hb, hml, hown, hts⟩ (met_X6_checkInput l D k  H.size v2 hc2) (va_cwS 1 hts gX6_sensitivityAnew_X6_checkInput rfl rfl rfl (by decide +kernel) ⟨Nat.le_of_ble_eq_true rfl, Nat.le_of_ble_eq_true rfl⟩) ⟨pw_blind, pw_start hPc hK hDc⟩ rfl rfl hl.1 rfl (lv_room (Nat.le_of_ble_eq_true rfl)) dX6_sensitivityAnew_7 ⟨Nat.zero_le _, Nat.zero_le _⟩) hS hFc (fun H1 locs hP1 hD1 hk1 hS => ?_)
  obtain ⟨hP, hD⟩ := vk hP hD [] rfl hk1 hP1
  clear hP1 hD1 hk1 hFc
  generalize H1 = H at hP hS ⊢
  refine lv_aload_n hx hb dX6_sensitivityAnew_10 rfl (lv_at hl 0 rfl) ?_
  refine lv_aload_n hx hb dX6_sensitivityAnew_11 rfl (lv_at hl 1 rfl) ?_
  refine va_get (D := D) (ci := 6) (v := .ref (aI 0)) (C := RX6) (T := TX6) (N := 9) hx hb hts iX6 hown hK hP 0 rfl rfl 0 (by decide) f10 (fun _ h9 => h9) rfl dX6_sensitivityAnew_12 ?_
  refine va_get (D := D) (ci := 4) (v := .ref (aI 1)) (C := RX4) (T := TX4) (N := 9) hx hb hts iX4 hown hK hP 3 rfl rfl 0 (by decide) f108 (fun _ h9 => h9) rfl dX6_sensitivityAnew_15 ?_
  refine lv_aload_n hx hb dX6_sensitivityAnew_18 rfl (lv_at hl 1 rfl) ?_
  refine va_get (D := D) (ci := 6) (v := .ref (aB 0)) (C := RX6) (T := TX6) (N := 9) hx hb hts iX6 hown hK hP 0 rfl rfl 5 (by decide) f41 (fun _ h9 => h9) rfl dX6_sensitivityAnew_19 ?_
  refine va_get (D := D) (ci := 0) (v := .ref (aB 1)) (C := RX0) (T := TX0) (N := 4) hx hb hts iX0 hown hK hP 33 rfl rfl 0 (by decide) f173 (fun _ h9 => h9) rfl dX6_sensitivityAnew_22 ?_
  obtain ⟨values_3, slopes_3, wA_3, hc3, h⟩ := bnd3_inv h
  have hPc := hP.sub (ws' := ((wF k aF Fkinds Flefts Frights Fplaces Fvalues Fslopes Fexponents Fsize Froot) ++ ([(aI 1, .inl (k 0, 6, .inl Iestimates))]) ++ ([(aB 1, .inl (k 1, 6, .inr (.inl Bslopes)))]))) [25, 26, 27, 28, 29, 30, 31, 32, 4, 34] rfl
  have hDc := hD.sub (ws' := ((wF k aF Fkinds Flefts Frights Fplaces Fvalues Fslopes Fexponents Fsize Froot) ++ ([(aI 1, .inl (k 0, 6, .inl Iestimates))]) ++ ([(aB 1, .inl (k 1, 6, .inr (.inl Bslopes)))]))) [25, 26, 27, 28, 29, 30, 31, 32, 4, 34] rfl rfl
  have hFc := va_free (wc := ((wF k aF Fkinds Flefts Frights Fplaces Fvalues Fslopes Fexponents Fsize Froot) ++ ([(aI 1, .inl (k 0, 6, .inl Iestimates))]) ++ ([(aB 1, .inl (k 1, 6, .inr (.inl Bslopes)))]))) hD hS hA [25, 26, 27, 28, 29, 30, 31, 32, 4, 34] rfl
  refine xc_v (va_runV (As := [.ref (aI 1), .ref (aB 1)]) (rest := []) ⟨hx, hb, hml, hown, hts⟩ (met_X3_slopesBackward l D k  aF (aI 1) (aB 1) H.size Fkinds Flefts Frights Fplaces Fvalues Fslopes Fexponents Fsize Froot Iestimates Bslopes values_3 slopes_3 wA_3 hc3) (cwV 2 hts gX6_sensitivityAnew_X3_slopesBackward rfl rfl rfl (by decide +kernel) ⟨Nat.le_of_ble_eq_true rfl, Nat.le_of_ble_eq_true rfl⟩) ⟨pw_blind, va_recv hK hPc (ci := 3) (q0 := 0) rfl rfl, pw_start hPc hK hDc⟩ rfl rfl hl.1 rfl (lv_room (Nat.le_of_ble_eq_true rfl)) dX6_sensitivityAnew_25 ⟨Nat.zero_le _, Nat.zero_le _⟩) hS hFc (fun H1 locs hP1 hD1 hk1 hS => ?_)
  obtain ⟨hP, hD⟩ := vj (ws' := ((wU k aU (aI 0) xL xS (aB 0) xV xC Uformulas Udrawn Umodels) ++ (wI k aI Iestimates Ivariances Isorts Iwidths Icounts Ireadings Ifirsts Iseconds Icovariances) ++ (wF k aF Fkinds Flefts Frights Fplaces values_3 slopes_3 Fexponents Fsize Froot) ++ (wB k aB wA_3 Bcontributions Bvariance BdegreesSum))) (w1 := ((wF k aF Fkinds Flefts Frights Fplaces values_3 slopes_3 Fexponents Fsize Froot) ++ ([(aI 1, .inl (k 0, 6, .inl Iestimates))]) ++ ([(aB 1, .inl (k 1, 6, .inr (.inl wA_3)))]))) hP hD [25, 26, 27, 28, 29, 30, 31, 32, 4, 34] [0, 1, 2, 3, 5, 6, 7, 8, 9, 10, 11, 12, 13, 14, 15, 16, 17, 18, 19, 20, 21, 22, 23, 24, 33, 35] [0, 1, 2, 3, 34, 4, 5, 6, 7, 8, 9, 10, 11, 12, 13, 14, 15, 16, 17, 18, 19, 20, 21, 22, 23, 26, 27, 28, 29, 30, 31, 32, 33, 24, 35, 25] rfl rfl rfl rfl rfl hk1 hFc hP1 hD1
  clear hP1 hD1 hk1 hFc
  generalize H1 = H at hP hS ⊢
  refine lv_aload_n hx hb dX6_sensitivityAnew_28 rfl (lv_at hl 1 rfl) ?_
  refine va_get (D := D) (ci := 6) (v := .ref (aB 0)) (C := RX6) (T := TX6) (N := 9) hx hb hts iX6 hown hK hP 0 rfl rfl 5 (by decide) f41 (fun _ h9 => h9) rfl dX6_sensitivityAnew_29 ?_
  refine va_get (D := D) (ci := 0) (v := .ref (aB 1)) (C := RX0) (T := TX0) (N := 4) hx hb hts iX0 hown hK hP 33 rfl rfl 0 (by decide) f173 (fun _ h9 => h9) rfl dX6_sensitivityAnew_32 ?_
  refine lv_iload_n hx hb dX6_sensitivityAnew_35 rfl (lv_at hl 3 rfl) ?_
  obtain ⟨hi4, h⟩ := gi_inv h
  refine va_lald hx hb hK hP 34 1 rfl rfl hi4 dX6_sensitivityAnew_36 ?_
  have hP9 := hP
  have hD9 := hD
  have hS9 := hS
  subst hQ
  cases h
  exact W.lret hx hb hr (fun t ht hW => ⟨⟨_, (), rfl, rfl, by rw [ht]; exact hP9, va_K.moved hW.alike hK, hD9⟩, hS9.F ht⟩) hS9.2.2 dX6_sensitivityAnew_37
