def LX3_power_5 (v0 : Int64) (v2 : Int32) (E21 : Int64 → Option (Int64)) : Nat → Int64 → Int32 → Option (Int64)
  | 0, _, _ => none
  | fuel + 1, v3, v5 => (if v2 ≤ v5 then E21 v3 else LX3_power_5 v0 v2 E21 fuel (v3 * v0) (v5 + 1))
def fX3_power (v0 : Int64) (v2 : Int32) : Option (Int64) := LX3_power_5 v0 v2 (fun (v3 : Int64) => some (v3)) 1000 1 0
abbrev rmX3_power : Room := { frames := 0, cells := 0, slots := 0, locals := 0 }
set_option maxHeartbeats 4000000 in
set_option maxRecDepth 100000 in
theorem met_X3_power (l : Launch) (D : va_G) (k : Nat → ClassId)  (sz : Nat)  (v0 : Int64) (v2 : Int32) (r : Int64) (h : fX3_power v0 v2 = some r) : Met l yX3_power wsX3_power rmX3_power (va_Pc [.long v0, .int v2] (PreW D k ([] : va_W) sz)) (va_Ql (fun r9 (_ : Unit) => r9 = r) (fun _ t => PostW D k (va_A ([] : va_W) sz) ([] : va_W) t) (va_A ([] : va_W) sz)) 0 0 (va_A ([] : va_W) sz) := by
  refine Met.ofW (cc := cX3_power) (maxL := 6) (ret := (some .long)) (by decide) rfl ?_
  intro p e s m args below meth c s₁ B hml hv
  obtain ⟨hav, hsz, hP, hK, hD0⟩ := hv
  have hx := B.exec
  have hb := B.bytes
  have hr := B.returns
  have hts := atoms_spec (ws := wsX3_power) B.pre
  have hown : s.vm.findClass RX3 = some m.cls := findClass_of_methodNamed B.named
  have hlocks := B.notSynchronized
  subst hsz
  have hD := hD0.self (sz := s.heap.size)
  clear hD0
  generalize hAe : va_A ([] : va_W) s.heap.size = A at hD ⊢
  have hA : ∀ q : Nat, s.heap.size ≤ q → A q := fun q h => by rw [← hAe]; exact Or.inr h
  have hS : va_S A s.heap s.heap [] := va_S.rf
  have hl := lv_entry ([.long v0, .int v2]) (n := 6) (Nat.le_of_ble_eq_true rfl)
  rw [show entryFrame m args 6 = entryFrame m ([.long v0, .int v2] : List Value).toArray 6 from by rw [hav], lg_entry_eq]
  generalize (lg_sl ([.long v0, .int v2]) ++ List.replicate (6 - (lg_sl ([.long v0, .int v2])).length) Slot.unset).toArray = ls at hl ⊢
  replace hl : lv_has ls 6 [(0, .long v0), (2, .int v2)] := hl
  refine w_q (fun Q hQ => ?_)
  unfold fX3_power at h
  show W p l e rmX3_power s m args below meth c s.heap [] 0 0 Q (F0 m 0 ls [])
  have LH_5 : ∀ (E21 : Int64 → Option (Int64)) (hE21 : ∀ (v3 : Int64), E21 v3 = some r → ∀ (H : Heap) (locs : List Loc) (ls : Array Slot), va_P D vwCl ([] : va_W) H → va_D A ([] : va_W) → va_S A s.heap H locs → lv_has ls 6 [(3, .long v3)] → W p l e rmX3_power s m args below meth c H locs 0 0 Q (F0 m 21 ls [])) (n : Nat) (v3 : Int64) (v5 : Int32), LX3_power_5 v0 v2 E21 n v3 v5 = some r → ∀ (H : Heap) (locs : List Loc) (ls : Array Slot), va_P D vwCl ([] : va_W) H → va_D A ([] : va_W) → va_S A s.heap H locs → lv_has ls 6 [(0, .long v0), (2, .int v2), (3, .long v3), (5, .int v5)] → W p l e rmX3_power s m args below meth c H locs 0 0 Q (F0 m 5 ls []) := by
    intro E21 hE21 n
    induction n with
    | zero => intro v3 v5 h; simp [LX3_power_5] at h
    | succ n ih =>
    intro v3 v5 h H locs ls hP hD hS hl
    rw [LX3_power_5] at h
    refine lv_iload hx hb dX3_power_5 (lv_at hl 3 rfl) ?_
    refine lv_iload_n hx hb dX3_power_7 rfl (lv_at hl 1 rfl) ?_
    refine lv_icmp_ge (tgt := 21) hx hb dX3_power_8 (by decide) (fun c1 => ?_) (fun c1 => ?_)
    · replace h := sf_t c1 h
      exact hE21 _ h _ _ _ hP hD hS (lv_sub hl [2] rfl)
    · replace h := sf_f c1 h
      refine lv_lload_n hx hb dX3_power_11 rfl (lv_at hl 2 rfl) ?_
      refine lv_lload_n hx hb dX3_power_12 rfl (lv_at hl 0 rfl) ?_
      refine lv_lmul hx hb dX3_power_13 ?_
      refine lv_lstore_n (lv' := [(3, .long (v3 * v0)), (0, .long v0), (2, .int v2), (5, .int v5)]) hx hb dX3_power_14 rfl hl (by decide) rfl (fun ls hl => ?_)
      refine lv_iinc (v := v5 + 1) (lv' := [(5, .int (v5 + 1)), (3, .long (v3 * v0)), (0, .long v0), (2, .int v2)]) hx hb dX3_power_15 hl (k := 3) rfl rfl (by decide) rfl (fun ls hl => ?_)
      refine lv_goto (tgt := 5) hx hb dX3_power_18 (by decide) ?_
      exact ih _ _ h _ _ _ hP hD hS (lv_sub hl [2, 3, 1, 0] rfl)
  suffices main : ∀ (H : Heap) (locs : List Loc) (ls : Array Slot), va_P D vwCl ([] : va_W) H → va_D A ([] : va_W) → va_S A s.heap H locs → lv_has ls 6 [(0, .long v0), (2, .int v2)] → W p l e rmX3_power s m args below meth c H locs 0 0 Q (F0 m 0 ls []) from main _ _ _ hP hD hS hl
  clear hP hD hS hl ls hAe
  intro H locs ls hP hD hS hl
  refine lv_lconst (v := 1) hx hb dX3_power_0 (by decide) ?_
  refine lv_lstore_n (lv' := [(3, .long 1), (0, .long v0), (2, .int v2)]) hx hb dX3_power_1 rfl hl (by decide) rfl (fun ls hl => ?_)
  refine lv_iconst (v := 0) hx hb dX3_power_2 (by decide) ?_
  refine lv_istore (lv' := [(5, .int 0), (3, .long 1), (0, .long v0), (2, .int v2)]) hx hb dX3_power_3 hl (by decide) rfl (fun ls hl => ?_)
  refine LH_5 _ (fun v3 h H locs ls hP hD hS hl => ?_) _ _ _ h _ _ _ hP hD hS (lv_sub hl [2, 3, 1, 0] rfl)
  · skip
    refine lv_lload_n hx hb dX3_power_21 rfl (lv_at hl 0 rfl) ?_
    subst hQ
    cases h
    exact W.lret hx hb hr (fun t ht hW => ⟨⟨_, (), rfl, rfl, by rw [ht]; exact hP, va_K.moved hW.alike hK, hD⟩, hS.F ht⟩) hS.2.2 dX3_power_22
def fX3_powerSlope (v1 : Int32) (Flefts : Nat → Int32) (Frights : Nat → Int32) (Fvalues : Nat → Int64) : Option (Int64) := gi v1 60 ((if (Frights v1.toNatClampNeg) = 0 then some (0) else gi v1 60 (gi (Flefts v1.toNatClampNeg) 60 (bnd1 (fX3_power (Fvalues (Flefts v1.toNatClampNeg).toNatClampNeg) ((Frights v1.toNatClampNeg) - 1)) (fun r5 => some (((Frights v1.toNatClampNeg).toInt64) * r5))))))
abbrev rmX3_powerSlope : Room := { frames := 1, cells := 0, slots := 0, locals := 25 }
set_option maxHeartbeats 4000000 in
set_option maxRecDepth 100000 in
theorem met_X3_powerSlope (l : Launch) (D : va_G) (k : Nat → ClassId) (aF : Nat → Nat) (sz : Nat) (Fkinds : Nat → Int32) (Flefts : Nat → Int32) (Frights : Nat → Int32) (Fplaces : Nat → Int32) (Fvalues : Nat → Int64) (Fslopes : Nat → Int64) (Fexponents : Nat → Int32) (Fsize : Int32) (Froot : Int32) (v1 : Int32) (r : Int64) (h : fX3_powerSlope v1 Flefts Frights Fvalues = some r) : Met l yX3_powerSlope wsX3_powerSlope rmX3_powerSlope (va_Pc [.ref (aF 0), .int v1] (PreW D k (wF k aF Fkinds Flefts Frights Fplaces Fvalues Fslopes Fexponents Fsize Froot) sz)) (va_Ql (fun r9 (_ : Unit) => r9 = r) (fun _ t => PostW D k (va_A (wF k aF Fkinds Flefts Frights Fplaces Fvalues Fslopes Fexponents Fsize Froot) sz) (wF k aF Fkinds Flefts Frights Fplaces Fvalues Fslopes Fexponents Fsize Froot) t) (va_A (wF k aF Fkinds Flefts Frights Fplaces Fvalues Fslopes Fexponents Fsize Froot) sz)) 0 0 (va_A (wF k aF Fkinds Flefts Frights Fplaces Fvalues Fslopes Fexponents Fsize Froot) sz) := by
  refine Met.ofW (cc := cX3_powerSlope) (maxL := 3) (ret := (some .long)) (by decide) rfl ?_
  intro p e s m args below meth c s₁ B hml hv
  obtain ⟨hav, hsz, hP, hK, hD0⟩ := hv
  have hx := B.exec
  have hb := B.bytes
  have hr := B.returns
  have hts := atoms_spec (ws := wsX3_powerSlope) B.pre
  have hown : s.vm.findClass RX3 = some m.cls := findClass_of_methodNamed B.named
  have hlocks := B.notSynchronized
  subst hsz
  have hD := hD0.self (sz := s.heap.size)
  clear hD0
  generalize hAe : va_A (wF k aF Fkinds Flefts Frights Fplaces Fvalues Fslopes Fexponents Fsize Froot) s.heap.size = A at hD ⊢
  have hA : ∀ q : Nat, s.heap.size ≤ q → A q := fun q h => by rw [← hAe]; exact Or.inr h
  have hS : va_S A s.heap s.heap [] := va_S.rf
  have hl := lv_entry ([.ref (aF 0), .int v1]) (n := 3) (Nat.le_of_ble_eq_true rfl)
  rw [show entryFrame m args 3 = entryFrame m ([.ref (aF 0), .int v1] : List Value).toArray 3 from by rw [hav], lg_entry_eq]
  generalize (lg_sl ([.ref (aF 0), .int v1]) ++ List.replicate (3 - (lg_sl ([.ref (aF 0), .int v1])).length) Slot.unset).toArray = ls at hl ⊢
  replace hl : lv_has ls 3 [(0, .ref (aF 0)), (1, .int v1)] := hl
  have f15 := hts (.fieldLink RX3 15 "UncertainBook$Formula" "lefts" "[I") (by decide +kernel)
  have f18 := hts (.fieldLink RX3 18 "UncertainBook$Formula" "rights" "[I") (by decide +kernel)
  have f24 := hts (.fieldLink RX3 24 "UncertainBook$Formula" "values" "[J") (by decide +kernel)
  have iX3 : ∀ w ∈ u_ws RX3 TX3 9, w ∈ wsX3_powerSlope := by decide +kernel
  refine w_q (fun Q hQ => ?_)
  unfold fX3_powerSlope at h
  show W p l e rmX3_powerSlope s m args below meth c s.heap [] 0 0 Q (F0 m 0 ls [])
  suffices main : ∀ (H : Heap) (locs : List Loc) (ls : Array Slot), va_P D vwCl (wF k aF Fkinds Flefts Frights Fplaces Fvalues Fslopes Fexponents Fsize Froot) H → va_D A (wF k aF Fkinds Flefts Frights Fplaces Fvalues Fslopes Fexponents Fsize Froot) → va_S A s.heap H locs → lv_has ls 3 [(0, .ref (aF 0)), (1, .int v1)] → W p l e rmX3_powerSlope s m args below meth c H locs 0 0 Q (F0 m 0 ls []) from main _ _ _ hP hD hS hl
  clear hP hD hS hl ls hAe
  intro H locs ls hP hD hS hl
  refine lv_aload_n hx hb dX3_powerSlope_0 rfl (lv_at hl 0 rfl) ?_
  refine va_get (D := D) (ci := 3) (v := .ref (aF 3)) (C := RX3) (T := TX3) (N := 9) hx hb hts iX3 hown hK hP 0 rfl rfl 2 (by decide) f18 (fun _ h9 => h9) rfl dX3_powerSlope_1 ?_
  refine lv_iload_n hx hb dX3_powerSlope_4 rfl (lv_at hl 1 rfl) ?_
  obtain ⟨hi1, h⟩ := gi_inv h
  refine va_iald hx hb hK hP 3 0 rfl rfl hi1 dX3_powerSlope_5 ?_
  refine lv_istore_n (lv' := [(2, .int (Frights v1.toNatClampNeg)), (0, .ref (aF 0)), (1, .int v1)]) hx hb dX3_powerSlope_6 rfl hl (by decide) rfl (fun ls hl => ?_)
  refine lv_iload_n hx hb dX3_powerSlope_7 rfl (lv_at hl 0 rfl) ?_
  refine lv_if_ne (tgt := 15) hx hb dX3_powerSlope_8 (by decide) (fun c2 => ?_) (fun c2 => ?_)
  · replace h := sf_f c2 h
    refine lv_iload_n hx hb dX3_powerSlope_15 rfl (lv_at hl 0 rfl) ?_
    refine lv_i2l hx hb dX3_powerSlope_16 rfl ?_
    refine lv_aload_n hx hb dX3_powerSlope_17 rfl (lv_at hl 1 rfl) ?_
    refine va_get (D := D) (ci := 3) (v := .ref (aF 5)) (C := RX3) (T := TX3) (N := 9) hx hb hts iX3 hown hK hP 0 rfl rfl 4 (by decide) f24 (fun _ h9 => h9) rfl dX3_powerSlope_18 ?_
    refine lv_aload_n hx hb dX3_powerSlope_21 rfl (lv_at hl 1 rfl) ?_
    refine va_get (D := D) (ci := 3) (v := .ref (aF 2)) (C := RX3) (T := TX3) (N := 9) hx hb hts iX3 hown hK hP 0 rfl rfl 1 (by decide) f15 (fun _ h9 => h9) rfl dX3_powerSlope_22 ?_
    refine lv_iload_n hx hb dX3_powerSlope_25 rfl (lv_at hl 2 rfl) ?_
    obtain ⟨hi3, h⟩ := gi_inv h
    refine va_iald hx hb hK hP 2 0 rfl rfl hi3 dX3_powerSlope_26 ?_
    obtain ⟨hi4, h⟩ := gi_inv h
    refine va_lald hx hb hK hP 5 1 rfl rfl hi4 dX3_powerSlope_27 ?_
    refine lv_iload_n hx hb dX3_powerSlope_28 rfl (lv_at hl 0 rfl) ?_
    refine lv_iconst (v := 1) hx hb dX3_powerSlope_29 (by decide) ?_
    refine lv_isub hx hb dX3_powerSlope_30 ?_
    obtain ⟨r5, hc5, h⟩ := bnd1_inv h
    have hPc := hP.sub (ws' := ([] : va_W)) [] rfl
    have hDc := hD.sub (ws' := ([] : va_W)) [] rfl rfl
    have hFc := va_free (wc := ([] : va_W)) hD hS hA [] rfl
    refine xc_l (va_runS (As := [.long (Fvalues (Flefts v1.toNatClampNeg).toNatClampNeg), .int ((Frights v1.toNatClampNeg) - 1)]) (rest := [.long ((Frights v1.toNatClampNeg).toInt64)]) ⟨hx, hb, hml, hown, hts⟩ (met_X3_power l D k H.size (Fvalues (Flefts v1.toNatClampNeg).toNatClampNeg) ((Frights v1.toNatClampNeg) - 1) r5 hc5) (va_cwS 2 hts gX3_powerSlope_X3_power rfl rfl rfl (by decide +kernel) ⟨Nat.le_of_ble_eq_true rfl, Nat.le_of_ble_eq_true rfl⟩) ⟨pw_blind, pw_start hPc hK hDc⟩ rfl rfl hl.1 rfl (lv_room (Nat.le_of_ble_eq_true rfl)) dX3_powerSlope_31 ⟨Nat.zero_le _, Nat.zero_le _⟩) hS hFc (fun H1 locs hP1 hD1 hk1 hS => ?_)
    obtain ⟨hP, hD⟩ := vj (ws' := (wF k aF Fkinds Flefts Frights Fplaces Fvalues Fslopes Fexponents Fsize Froot)) (w1 := ([] : va_W)) hP hD [] [0, 1, 2, 3, 4, 5, 6, 7] [0, 1, 2, 3, 4, 5, 6, 7] rfl rfl rfl rfl rfl hk1 hFc hP1 hD1
    clear hP1 hD1 hk1 hFc
    generalize H1 = H at hP hS ⊢
    refine lv_lmul hx hb dX3_powerSlope_34 ?_
    subst hQ
    cases h
    exact W.lret hx hb hr (fun t ht hW => ⟨⟨_, (), rfl, rfl, by rw [ht]; exact hP, va_K.moved hW.alike hK, hD⟩, hS.F ht⟩) hS.2.2 dX3_powerSlope_35
  · replace h := sf_t c2 h
    refine lv_lconst (v := 0) hx hb dX3_powerSlope_11 (by decide) ?_
    refine lv_goto (tgt := 35) hx hb dX3_powerSlope_12 (by decide) ?_
    subst hQ
    cases h
    exact W.lret hx hb hr (fun t ht hW => ⟨⟨_, (), rfl, rfl, by rw [ht]; exact hP, va_K.moved hW.alike hK, hD⟩, hS.F ht⟩) hS.2.2 dX3_powerSlope_35
def LX3_find_3 (Fkinds : Nat → Int32) (Flefts : Nat → Int32) (Frights : Nat → Int32) (Fsize : Int32) (v1 : Int32) (v2 : Int32) (v3 : Int32) (E51 : Int32 → Option (Int32)) : Nat → Int32 → Option (Int32)
  | 0, _ => none
  | fuel + 1, v4 => (if Fsize ≤ v4 then E51 v4 else gi v4 60 ((if (Fkinds v4.toNatClampNeg) = v1 then gi v4 60 ((if (Flefts v4.toNatClampNeg) = v2 then gi v4 60 ((if (Frights v4.toNatClampNeg) = v3 then E51 v4 else LX3_find_3 Fkinds Flefts Frights Fsize v1 v2 v3 E51 fuel (v4 + 1))) else LX3_find_3 Fkinds Flefts Frights Fsize v1 v2 v3 E51 fuel (v4 + 1))) else LX3_find_3 Fkinds Flefts Frights Fsize v1 v2 v3 E51 fuel (v4 + 1))))
def fX3_find (v1 : Int32) (v2 : Int32) (v3 : Int32) (Fkinds : Nat → Int32) (Flefts : Nat → Int32) (Frights : Nat → Int32) (Fsize : Int32) : Option (Int32) := LX3_find_3 Fkinds Flefts Frights Fsize v1 v2 v3 (fun (v4 : Int32) => some (v4)) 1000 0
abbrev rmX3_find : Room := { frames := 0, cells := 0, slots := 0, locals := 0 }
set_option maxHeartbeats 4000000 in
set_option maxRecDepth 100000 in
theorem met_X3_find (l : Launch) (D : va_G) (k : Nat → ClassId) (aF : Nat → Nat) (sz : Nat) (Fkinds : Nat → Int32) (Flefts : Nat → Int32) (Frights : Nat → Int32) (Fplaces : Nat → Int32) (Fvalues : Nat → Int64) (Fslopes : Nat → Int64) (Fexponents : Nat → Int32) (Fsize : Int32) (Froot : Int32) (v1 : Int32) (v2 : Int32) (v3 : Int32) (r : Int32) (h : fX3_find v1 v2 v3 Fkinds Flefts Frights Fsize = some r) : Met l yX3_find wsX3_find rmX3_find (va_Pc [.ref (aF 0), .int v1, .int v2, .int v3] (PreW D k (wF k aF Fkinds Flefts Frights Fplaces Fvalues Fslopes Fexponents Fsize Froot) sz)) (va_Qi (fun r9 (_ : Unit) => r9 = r) (fun _ t => PostW D k (va_A (wF k aF Fkinds Flefts Frights Fplaces Fvalues Fslopes Fexponents Fsize Froot) sz) (wF k aF Fkinds Flefts Frights Fplaces Fvalues Fslopes Fexponents Fsize Froot) t) (va_A (wF k aF Fkinds Flefts Frights Fplaces Fvalues Fslopes Fexponents Fsize Froot) sz)) 0 0 (va_A (wF k aF Fkinds Flefts Frights Fplaces Fvalues Fslopes Fexponents Fsize Froot) sz) := by
  refine Met.ofW (cc := cX3_find) (maxL := 5) (ret := (some .int)) (by decide) rfl ?_
  intro p e s m args below meth c s₁ B hml hv
  obtain ⟨hav, hsz, hP, hK, hD0⟩ := hv
  have hx := B.exec
  have hb := B.bytes
  have hr := B.returns
  have hts := atoms_spec (ws := wsX3_find) B.pre
  have hown : s.vm.findClass RX3 = some m.cls := findClass_of_methodNamed B.named
  have hlocks := B.notSynchronized
  subst hsz
  have hD := hD0.self (sz := s.heap.size)
  clear hD0
  generalize hAe : va_A (wF k aF Fkinds Flefts Frights Fplaces Fvalues Fslopes Fexponents Fsize Froot) s.heap.size = A at hD ⊢
  have hA : ∀ q : Nat, s.heap.size ≤ q → A q := fun q h => by rw [← hAe]; exact Or.inr h
  have hS : va_S A s.heap s.heap [] := va_S.rf
  have hl := lv_entry ([.ref (aF 0), .int v1, .int v2, .int v3]) (n := 5) (Nat.le_of_ble_eq_true rfl)
  rw [show entryFrame m args 5 = entryFrame m ([.ref (aF 0), .int v1, .int v2, .int v3] : List Value).toArray 5 from by rw [hav], lg_entry_eq]
  generalize (lg_sl ([.ref (aF 0), .int v1, .int v2, .int v3]) ++ List.replicate (5 - (lg_sl ([.ref (aF 0), .int v1, .int v2, .int v3])).length) Slot.unset).toArray = ls at hl ⊢
  replace hl : lv_has ls 5 [(0, .ref (aF 0)), (1, .int v1), (2, .int v2), (3, .int v3)] := hl
  have f9 := hts (.fieldLink RX3 9 "UncertainBook$Formula" "kinds" "[I") (by decide +kernel)
  have f15 := hts (.fieldLink RX3 15 "UncertainBook$Formula" "lefts" "[I") (by decide +kernel)
  have f18 := hts (.fieldLink RX3 18 "UncertainBook$Formula" "rights" "[I") (by decide +kernel)
  have f34 := hts (.fieldLink RX3 34 "UncertainBook$Formula" "size" "I") (by decide +kernel)
  have iX3 : ∀ w ∈ u_ws RX3 TX3 9, w ∈ wsX3_find := by decide +kernel
  refine w_q (fun Q hQ => ?_)
  unfold fX3_find at h
  show W p l e rmX3_find s m args below meth c s.heap [] 0 0 Q (F0 m 0 ls [])
  have LH_3 : ∀ (E51 : Int32 → Option (Int32)) (hE51 : ∀ (v4 : Int32), E51 v4 = some r → ∀ (H : Heap) (locs : List Loc) (ls : Array Slot), va_P D vwCl (wF k aF Fkinds Flefts Frights Fplaces Fvalues Fslopes Fexponents Fsize Froot) H → va_D A (wF k aF Fkinds Flefts Frights Fplaces Fvalues Fslopes Fexponents Fsize Froot) → va_S A s.heap H locs → lv_has ls 5 [(4, .int v4)] → W p l e rmX3_find s m args below meth c H locs 0 0 Q (F0 m 51 ls [])) (n : Nat) (v4 : Int32), LX3_find_3 Fkinds Flefts Frights Fsize v1 v2 v3 E51 n v4 = some r → ∀ (H : Heap) (locs : List Loc) (ls : Array Slot), va_P D vwCl (wF k aF Fkinds Flefts Frights Fplaces Fvalues Fslopes Fexponents Fsize Froot) H → va_D A (wF k aF Fkinds Flefts Frights Fplaces Fvalues Fslopes Fexponents Fsize Froot) → va_S A s.heap H locs → lv_has ls 5 [(0, .ref (aF 0)), (1, .int v1), (2, .int v2), (3, .int v3), (4, .int v4)] → W p l e rmX3_find s m args below meth c H locs 0 0 Q (F0 m 3 ls []) := by
    intro E51 hE51 n
    induction n with
    | zero => intro v4 h; simp [LX3_find_3] at h
    | succ n ih =>
    intro v4 h H locs ls hP hD hS hl
    rw [LX3_find_3] at h
    refine lv_iload hx hb dX3_find_3 (lv_at hl 4 rfl) ?_
    refine lv_aload_n hx hb dX3_find_5 rfl (lv_at hl 0 rfl) ?_
    refine va_get (D := D) (ci := 3) (v := .int Fsize) (C := RX3) (T := TX3) (N := 9) hx hb hts iX3 hown hK hP 0 rfl rfl 7 (by decide) f34 (fun _ h9 => h9) rfl dX3_find_6 ?_
    refine lv_icmp_ge (tgt := 51) hx hb dX3_find_9 (by decide) (fun c1 => ?_) (fun c1 => ?_)
    · replace h := sf_t c1 h
      exact hE51 _ h _ _ _ hP hD hS (lv_sub hl [4] rfl)
    · replace h := sf_f c1 h
      refine lv_aload_n hx hb dX3_find_12 rfl (lv_at hl 0 rfl) ?_
      refine va_get (D := D) (ci := 3) (v := .ref (aF 1)) (C := RX3) (T := TX3) (N := 9) hx hb hts iX3 hown hK hP 0 rfl rfl 0 (by decide) f9 (fun _ h9 => h9) rfl dX3_find_13 ?_
      refine lv_iload hx hb dX3_find_16 (lv_at hl 4 rfl) ?_
      obtain ⟨hi2, h⟩ := gi_inv h
      refine va_iald hx hb hK hP 1 0 rfl rfl hi2 dX3_find_18 ?_
      refine lv_iload_n hx hb dX3_find_19 rfl (lv_at hl 1 rfl) ?_
      refine lv_icmp_ne (tgt := 45) hx hb dX3_find_20 (by decide) (fun c3 => ?_) (fun c3 => ?_)
      · replace h := sf_f c3 h
        refine lv_iinc (v := v4 + 1) (lv' := [(4, .int (v4 + 1)), (0, .ref (aF 0)), (1, .int v1), (2, .int v2), (3, .int v3)]) hx hb dX3_find_45 hl (k := 4) rfl rfl (by decide) rfl (fun ls hl => ?_)
        refine lv_goto (tgt := 3) hx hb dX3_find_48 (by decide) ?_
        exact ih _ h _ _ _ hP hD hS (lv_sub hl [1, 2, 3, 4, 0] rfl)
      · replace h := sf_t c3 h
        refine lv_aload_n hx hb dX3_find_23 rfl (lv_at hl 0 rfl) ?_
        refine va_get (D := D) (ci := 3) (v := .ref (aF 2)) (C := RX3) (T := TX3) (N := 9) hx hb hts iX3 hown hK hP 0 rfl rfl 1 (by decide) f15 (fun _ h9 => h9) rfl dX3_find_24 ?_
        refine lv_iload hx hb dX3_find_27 (lv_at hl 4 rfl) ?_
        obtain ⟨hi4, h⟩ := gi_inv h
        refine va_iald hx hb hK hP 2 0 rfl rfl hi4 dX3_find_29 ?_
        refine lv_iload_n hx hb dX3_find_30 rfl (lv_at hl 2 rfl) ?_
        refine lv_icmp_ne (tgt := 45) hx hb dX3_find_31 (by decide) (fun c5 => ?_) (fun c5 => ?_)
        · replace h := sf_f c5 h
          refine lv_iinc (v := v4 + 1) (lv' := [(4, .int (v4 + 1)), (0, .ref (aF 0)), (1, .int v1), (2, .int v2), (3, .int v3)]) hx hb dX3_find_45 hl (k := 4) rfl rfl (by decide) rfl (fun ls hl => ?_)
          refine lv_goto (tgt := 3) hx hb dX3_find_48 (by decide) ?_
          exact ih _ h _ _ _ hP hD hS (lv_sub hl [1, 2, 3, 4, 0] rfl)
        · replace h := sf_t c5 h
          refine lv_aload_n hx hb dX3_find_34 rfl (lv_at hl 0 rfl) ?_
          refine va_get (D := D) (ci := 3) (v := .ref (aF 3)) (C := RX3) (T := TX3) (N := 9) hx hb hts iX3 hown hK hP 0 rfl rfl 2 (by decide) f18 (fun _ h9 => h9) rfl dX3_find_35 ?_
          refine lv_iload hx hb dX3_find_38 (lv_at hl 4 rfl) ?_
          obtain ⟨hi6, h⟩ := gi_inv h
          refine va_iald hx hb hK hP 3 0 rfl rfl hi6 dX3_find_40 ?_
          refine lv_iload_n hx hb dX3_find_41 rfl (lv_at hl 3 rfl) ?_
          refine lv_icmp_eq (tgt := 51) hx hb dX3_find_42 (by decide) (fun c7 => ?_) (fun c7 => ?_)
          · replace h := sf_t c7 h
            exact hE51 _ h _ _ _ hP hD hS (lv_sub hl [4] rfl)
          · replace h := sf_f c7 h
            refine lv_iinc (v := v4 + 1) (lv' := [(4, .int (v4 + 1)), (0, .ref (aF 0)), (1, .int v1), (2, .int v2), (3, .int v3)]) hx hb dX3_find_45 hl (k := 4) rfl rfl (by decide) rfl (fun ls hl => ?_)
            refine lv_goto (tgt := 3) hx hb dX3_find_48 (by decide) ?_
            exact ih _ h _ _ _ hP hD hS (lv_sub hl [1, 2, 3, 4, 0] rfl)
  suffices main : ∀ (H : Heap) (locs : List Loc) (ls : Array Slot), va_P D vwCl (wF k aF Fkinds Flefts Frights Fplaces Fvalues Fslopes Fexponents Fsize Froot) H → va_D A (wF k aF Fkinds Flefts Frights Fplaces Fvalues Fslopes Fexponents Fsize Froot) → va_S A s.heap H locs → lv_has ls 5 [(0, .ref (aF 0)), (1, .int v1), (2, .int v2), (3, .int v3)] → W p l e rmX3_find s m args below meth c H locs 0 0 Q (F0 m 0 ls []) from main _ _ _ hP hD hS hl
  clear hP hD hS hl ls hAe
  intro H locs ls hP hD hS hl
  refine lv_iconst (v := 0) hx hb dX3_find_0 (by decide) ?_
  refine lv_istore (lv' := [(4, .int 0), (0, .ref (aF 0)), (1, .int v1), (2, .int v2), (3, .int v3)]) hx hb dX3_find_1 hl (by decide) rfl (fun ls hl => ?_)
  refine LH_3 _ (fun v4 h H locs ls hP hD hS hl => ?_) _ _ h _ _ _ hP hD hS (lv_sub hl [1, 2, 3, 4, 0] rfl)
  · skip
    refine lv_iload hx hb dX3_find_51 (lv_at hl 0 rfl) ?_
    subst hQ
    cases h
    exact W.iret hx hb hr (fun t ht hW => ⟨⟨_, (), rfl, rfl, by rw [ht]; exact hP, va_K.moved hW.alike hK, hD⟩, hS.F ht⟩) hS.2.2 dX3_find_53
def fX3_add (v1 : Int32) (v2 : Int32) (v3 : Int32) (v4 : Int32) (Fkinds : Nat → Int32) (Flefts : Nat → Int32) (Frights : Nat → Int32) (Fplaces : Nat → Int32) (Fsize : Int32) : Option (Int32 × (Nat → Int32) × (Nat → Int32) × (Nat → Int32) × (Nat → Int32) × Int32) := bnd1 (fX3_find v1 v2 v3 Fkinds Flefts Frights Fsize) (fun r1 => (if r1 < 60 then (if r1 = Fsize then gi r1 60 (gi r1 60 (gi r1 60 (gi r1 60 (some (r1, upd Fkinds (r1.toNatClampNeg) v1, upd Flefts (r1.toNatClampNeg) v2, upd Frights (r1.toNatClampNeg) v3, upd Fplaces (r1.toNatClampNeg) v4, Fsize + 1))))) else some (r1, Fkinds, Flefts, Frights, Fplaces, Fsize)) else some ((-1), Fkinds, Flefts, Frights, Fplaces, Fsize)))
abbrev rmX3_add : Room := { frames := 1, cells := 0, slots := 0, locals := 24 }
set_option maxHeartbeats 4000000 in
set_option maxRecDepth 100000 in
theorem met_X3_add (l : Launch) (D : va_G) (k : Nat → ClassId) (aF : Nat → Nat) (sz : Nat) (Fkinds : Nat → Int32) (Flefts : Nat → Int32) (Frights : Nat → Int32) (Fplaces : Nat → Int32) (Fvalues : Nat → Int64) (Fslopes : Nat → Int64) (Fexponents : Nat → Int32) (Fsize : Int32) (Froot : Int32) (v1 : Int32) (v2 : Int32) (v3 : Int32) (v4 : Int32) (r : Int32) (RFkinds : Nat → Int32) (RFlefts : Nat → Int32) (RFrights : Nat → Int32) (RFplaces : Nat → Int32) (RFsize : Int32) (h : fX3_add v1 v2 v3 v4 Fkinds Flefts Frights Fplaces Fsize = some (r, RFkinds, RFlefts, RFrights, RFplaces, RFsize)) : Met l yX3_add wsX3_add rmX3_add (va_Pc [.ref (aF 0), .int v1, .int v2, .int v3, .int v4] (PreW D k (wF k aF Fkinds Flefts Frights Fplaces Fvalues Fslopes Fexponents Fsize Froot) sz)) (va_Qi (fun r9 (_ : Unit) => r9 = r) (fun _ t => PostW D k (va_A (wF k aF Fkinds Flefts Frights Fplaces Fvalues Fslopes Fexponents Fsize Froot) sz) (wF k aF RFkinds RFlefts RFrights RFplaces Fvalues Fslopes Fexponents RFsize Froot) t) (va_A (wF k aF Fkinds Flefts Frights Fplaces Fvalues Fslopes Fexponents Fsize Froot) sz)) 0 0 (va_A (wF k aF Fkinds Flefts Frights Fplaces Fvalues Fslopes Fexponents Fsize Froot) sz) := by
  refine Met.ofW (cc := cX3_add) (maxL := 6) (ret := (some .int)) (by decide) rfl ?_
  intro p e s m args below meth c s₁ B hml hv
  obtain ⟨hav, hsz, hP, hK, hD0⟩ := hv
  have hx := B.exec
  have hb := B.bytes
  have hr := B.returns
  have hts := atoms_spec (ws := wsX3_add) B.pre
  have hown : s.vm.findClass RX3 = some m.cls := findClass_of_methodNamed B.named
  have hlocks := B.notSynchronized
  subst hsz
  have hD := hD0.self (sz := s.heap.size)
  clear hD0
  generalize hAe : va_A (wF k aF Fkinds Flefts Frights Fplaces Fvalues Fslopes Fexponents Fsize Froot) s.heap.size = A at hD ⊢
  have hA : ∀ q : Nat, s.heap.size ≤ q → A q := fun q h => by rw [← hAe]; exact Or.inr h
  have hS : va_S A s.heap s.heap [] := va_S.rf
  have hl := lv_entry ([.ref (aF 0), .int v1, .int v2, .int v3, .int v4]) (n := 6) (Nat.le_of_ble_eq_true rfl)
  rw [show entryFrame m args 6 = entryFrame m ([.ref (aF 0), .int v1, .int v2, .int v3, .int v4] : List Value).toArray 6 from by rw [hav], lg_entry_eq]
  generalize (lg_sl ([.ref (aF 0), .int v1, .int v2, .int v3, .int v4]) ++ List.replicate (6 - (lg_sl ([.ref (aF 0), .int v1, .int v2, .int v3, .int v4])).length) Slot.unset).toArray = ls at hl ⊢
  replace hl : lv_has ls 6 [(0, .ref (aF 0)), (1, .int v1), (2, .int v2), (3, .int v3), (4, .int v4)] := hl
  have f9 := hts (.fieldLink RX3 9 "UncertainBook$Formula" "kinds" "[I") (by decide +kernel)
  have f15 := hts (.fieldLink RX3 15 "UncertainBook$Formula" "lefts" "[I") (by decide +kernel)
  have f18 := hts (.fieldLink RX3 18 "UncertainBook$Formula" "rights" "[I") (by decide +kernel)
  have f21 := hts (.fieldLink RX3 21 "UncertainBook$Formula" "places" "[I") (by decide +kernel)
  have f34 := hts (.fieldLink RX3 34 "UncertainBook$Formula" "size" "I") (by decide +kernel)
  have iX3 : ∀ w ∈ u_ws RX3 TX3 9, w ∈ wsX3_add := by decide +kernel
  refine w_q (fun Q hQ => ?_)
  unfold fX3_add at h
  show W p l e rmX3_add s m args below meth c s.heap [] 0 0 Q (F0 m 0 ls [])
  suffices main : ∀ (H : Heap) (locs : List Loc) (ls : Array Slot), va_P D vwCl (wF k aF Fkinds Flefts Frights Fplaces Fvalues Fslopes Fexponents Fsize Froot) H → va_D A (wF k aF Fkinds Flefts Frights Fplaces Fvalues Fslopes Fexponents Fsize Froot) → va_S A s.heap H locs → lv_has ls 6 [(0, .ref (aF 0)), (1, .int v1), (2, .int v2), (3, .int v3), (4, .int v4)] → W p l e rmX3_add s m args below meth c H locs 0 0 Q (F0 m 0 ls []) from main _ _ _ hP hD hS hl
  clear hP hD hS hl ls hAe
  intro H locs ls hP hD hS hl
  refine lv_aload_n hx hb dX3_add_0 rfl (lv_at hl 0 rfl) ?_
  refine lv_iload_n hx hb dX3_add_1 rfl (lv_at hl 1 rfl) ?_
  refine lv_iload_n hx hb dX3_add_2 rfl (lv_at hl 2 rfl) ?_
  refine lv_iload_n hx hb dX3_add_3 rfl (lv_at hl 3 rfl) ?_
  obtain ⟨r1, hc1, h⟩ := bnd1_inv h
  have hFc := va_free (wc := (wF k aF Fkinds Flefts Frights Fplaces Fvalues Fslopes Fexponents Fsize Froot)) hD hS hA [0, 1, 2, 3, 4, 5, 6, 7] rfl
  refine xc_i (va_runV (As := [.int v1, .int v2, .int v3]) (rest := []) ⟨hx, hb, hml, hown, hts⟩ (met_X3_find l D k aF H.size Fkinds Flefts Frights Fplaces Fvalues Fslopes Fexponents Fsize Froot v1 v2 v3 r1 hc1) (cwV 3 hts gX3_add_X3_find rfl rfl rfl (by decide +kernel) ⟨Nat.le_of_ble_eq_true rfl, Nat.le_of_ble_eq_true rfl⟩) ⟨pw_blind, va_recv hK hP (ci := 3) (q0 := 0) rfl rfl, pw_start hP hK hD⟩ rfl rfl hl.1 rfl (lv_room (Nat.le_of_ble_eq_true rfl)) dX3_add_4 ⟨Nat.zero_le _, Nat.zero_le _⟩) hS hFc (fun H1 locs hP1 hD1 hk1 hS => ?_)
  obtain ⟨hP, hD⟩ := vj_all hFc hP1 hD1
  clear hP1 hD1 hk1 hFc
  generalize H1 = H at hP hS ⊢
  refine lv_istore (lv' := [(5, .int r1), (0, .ref (aF 0)), (1, .int v1), (2, .int v2), (3, .int v3), (4, .int v4)]) hx hb dX3_add_7 hl (by decide) rfl (fun ls hl => ?_)
  refine lv_iload hx hb dX3_add_9 (lv_at hl 0 rfl) ?_
  refine lv_bipush (v := 60) hx hb dX3_add_11 (by decide) ?_
  refine lv_icmp_lt (tgt := 18) hx hb dX3_add_13 (by decide) (fun c2 => ?_) (fun c2 => ?_)
  · replace h := sf_t c2 h
    refine lv_iload hx hb dX3_add_18 (lv_at hl 0 rfl) ?_
    refine lv_aload_n hx hb dX3_add_20 rfl (lv_at hl 1 rfl) ?_
    refine va_get (D := D) (ci := 3) (v := .int Fsize) (C := RX3) (T := TX3) (N := 9) hx hb hts iX3 hown hK hP 0 rfl rfl 7 (by decide) f34 (fun _ h9 => h9) rfl dX3_add_21 ?_
    refine lv_icmp_ne (tgt := 70) hx hb dX3_add_24 (by decide) (fun c3 => ?_) (fun c3 => ?_)
    · replace h := sf_f c3 h
      refine lv_iload hx hb dX3_add_70 (lv_at hl 0 rfl) ?_
      subst hQ
      cases h
      exact W.iret hx hb hr (fun t ht hW => ⟨⟨_, (), rfl, rfl, by rw [ht]; exact hP, va_K.moved hW.alike hK, hD⟩, hS.F ht⟩) hS.2.2 dX3_add_72
    · replace h := sf_t c3 h
      refine lv_aload_n hx hb dX3_add_27 rfl (lv_at hl 1 rfl) ?_
      refine va_get (D := D) (ci := 3) (v := .ref (aF 1)) (C := RX3) (T := TX3) (N := 9) hx hb hts iX3 hown hK hP 0 rfl rfl 0 (by decide) f9 (fun _ h9 => h9) rfl dX3_add_28 ?_
      refine lv_iload hx hb dX3_add_31 (lv_at hl 0 rfl) ?_
      refine lv_iload_n hx hb dX3_add_33 rfl (lv_at hl 2 rfl) ?_
      obtain ⟨hi4, h⟩ := gi_inv h
      refine va_iast hx hb hK hP hD hS 1 0 rfl rfl hi4 dX3_add_34 (fun H locs hP hD hS => ?_)
      replace hP : va_P D vwCl (wF k aF (upd Fkinds (r1.toNatClampNeg) v1) Flefts Frights Fplaces Fvalues Fslopes Fexponents Fsize Froot) H := hP
      replace hD : va_D A (wF k aF (upd Fkinds (r1.toNatClampNeg) v1) Flefts Frights Fplaces Fvalues Fslopes Fexponents Fsize Froot) := hD
      refine lv_aload_n hx hb dX3_add_35 rfl (lv_at hl 1 rfl) ?_
      refine va_get (D := D) (ci := 3) (v := .ref (aF 2)) (C := RX3) (T := TX3) (N := 9) hx hb hts iX3 hown hK hP 0 rfl rfl 1 (by decide) f15 (fun _ h9 => h9) rfl dX3_add_36 ?_
      refine lv_iload hx hb dX3_add_39 (lv_at hl 0 rfl) ?_
      refine lv_iload_n hx hb dX3_add_41 rfl (lv_at hl 3 rfl) ?_
      obtain ⟨hi5, h⟩ := gi_inv h
      refine va_iast hx hb hK hP hD hS 2 0 rfl rfl hi5 dX3_add_42 (fun H locs hP hD hS => ?_)
      replace hP : va_P D vwCl (wF k aF (upd Fkinds (r1.toNatClampNeg) v1) (upd Flefts (r1.toNatClampNeg) v2) Frights Fplaces Fvalues Fslopes Fexponents Fsize Froot) H := hP
      replace hD : va_D A (wF k aF (upd Fkinds (r1.toNatClampNeg) v1) (upd Flefts (r1.toNatClampNeg) v2) Frights Fplaces Fvalues Fslopes Fexponents Fsize Froot) := hD
      refine lv_aload_n hx hb dX3_add_43 rfl (lv_at hl 1 rfl) ?_
      refine va_get (D := D) (ci := 3) (v := .ref (aF 3)) (C := RX3) (T := TX3) (N := 9) hx hb hts iX3 hown hK hP 0 rfl rfl 2 (by decide) f18 (fun _ h9 => h9) rfl dX3_add_44 ?_
      refine lv_iload hx hb dX3_add_47 (lv_at hl 0 rfl) ?_
      refine lv_iload_n hx hb dX3_add_49 rfl (lv_at hl 4 rfl) ?_
      obtain ⟨hi6, h⟩ := gi_inv h
      refine va_iast hx hb hK hP hD hS 3 0 rfl rfl hi6 dX3_add_50 (fun H locs hP hD hS => ?_)
      replace hP : va_P D vwCl (wF k aF (upd Fkinds (r1.toNatClampNeg) v1) (upd Flefts (r1.toNatClampNeg) v2) (upd Frights (r1.toNatClampNeg) v3) Fplaces Fvalues Fslopes Fexponents Fsize Froot) H := hP
      replace hD : va_D A (wF k aF (upd Fkinds (r1.toNatClampNeg) v1) (upd Flefts (r1.toNatClampNeg) v2) (upd Frights (r1.toNatClampNeg) v3) Fplaces Fvalues Fslopes Fexponents Fsize Froot) := hD
      refine lv_aload_n hx hb dX3_add_51 rfl (lv_at hl 1 rfl) ?_
      refine va_get (D := D) (ci := 3) (v := .ref (aF 4)) (C := RX3) (T := TX3) (N := 9) hx hb hts iX3 hown hK hP 0 rfl rfl 3 (by decide) f21 (fun _ h9 => h9) rfl dX3_add_52 ?_
      refine lv_iload hx hb dX3_add_55 (lv_at hl 0 rfl) ?_
      refine lv_iload hx hb dX3_add_57 (lv_at hl 5 rfl) ?_
      obtain ⟨hi7, h⟩ := gi_inv h
      refine va_iast hx hb hK hP hD hS 4 0 rfl rfl hi7 dX3_add_59 (fun H locs hP hD hS => ?_)
      replace hP : va_P D vwCl (wF k aF (upd Fkinds (r1.toNatClampNeg) v1) (upd Flefts (r1.toNatClampNeg) v2) (upd Frights (r1.toNatClampNeg) v3) (upd Fplaces (r1.toNatClampNeg) v4) Fvalues Fslopes Fexponents Fsize Froot) H := hP
      replace hD : va_D A (wF k aF (upd Fkinds (r1.toNatClampNeg) v1) (upd Flefts (r1.toNatClampNeg) v2) (upd Frights (r1.toNatClampNeg) v3) (upd Fplaces (r1.toNatClampNeg) v4) Fvalues Fslopes Fexponents Fsize Froot) := hD
      refine lv_aload_n hx hb dX3_add_60 rfl (lv_at hl 1 rfl) ?_
      refine lv_dup hx hb dX3_add_61 rfl ?_
      refine va_get (D := D) (ci := 3) (v := .int Fsize) (C := RX3) (T := TX3) (N := 9) hx hb hts iX3 hown hK hP 0 rfl rfl 7 (by decide) f34 (fun _ h9 => h9) rfl dX3_add_62 ?_
      refine lv_iconst (v := 1) hx hb dX3_add_65 (by decide) ?_
      refine lv_iadd hx hb dX3_add_66 ?_
      refine va_put (D := D) (ci := 3) (v := .int (Fsize + 1)) (ty := .int) (C := RX3) (T := TX3) (N := 9) hx hb hts iX3 tyX3 tyX3_ok nmX3 hown hK hP hD hS 0 rfl rfl 7 (by decide) f34 (fun _ h9 => h9) rfl (by decide +kernel) rfl rfl (Nat.le_of_ble_eq_true rfl) dX3_add_67 (fun H locs hP hD hS => ?_)
      replace hP : va_P D vwCl (wF k aF (upd Fkinds (r1.toNatClampNeg) v1) (upd Flefts (r1.toNatClampNeg) v2) (upd Frights (r1.toNatClampNeg) v3) (upd Fplaces (r1.toNatClampNeg) v4) Fvalues Fslopes Fexponents (Fsize + 1) Froot) H := hP
      replace hD : va_D A (wF k aF (upd Fkinds (r1.toNatClampNeg) v1) (upd Flefts (r1.toNatClampNeg) v2) (upd Frights (r1.toNatClampNeg) v3) (upd Fplaces (r1.toNatClampNeg) v4) Fvalues Fslopes Fexponents (Fsize + 1) Froot) := hD
      refine lv_iload hx hb dX3_add_70 (lv_at hl 0 rfl) ?_
      subst hQ
      cases h
      exact W.iret hx hb hr (fun t ht hW => ⟨⟨_, (), rfl, rfl, by rw [ht]; exact hP, va_K.moved hW.alike hK, hD⟩, hS.F ht⟩) hS.2.2 dX3_add_72
  · replace h := sf_f c2 h
    refine lv_iconst (v := -1) hx hb dX3_add_16 (by decide) ?_
    subst hQ
    cases h
    exact W.iret hx hb hr (fun t ht hW => ⟨⟨_, (), rfl, rfl, by rw [ht]; exact hP, va_K.moved hW.alike hK, hD⟩, hS.F ht⟩) hS.2.2 dX3_add_17
def fX3_handDown (v1 : Int32) (Fkinds : Nat → Int32) (Flefts : Nat → Int32) (Frights : Nat → Int32) (Fvalues : Nat → Int64) (Fslopes : Nat → Int64) : Option ((Nat → Int64)) := gi v1 60 (gi v1 60 (gi v1 60 (gi v1 60 ((if (Fkinds v1.toNatClampNeg) = 2 then gi (Flefts v1.toNatClampNeg) 60 (gi (Flefts v1.toNatClampNeg) 60 (some (vp_updL Fslopes ((Flefts v1.toNatClampNeg).toNatClampNeg) ((Fslopes (Flefts v1.toNatClampNeg).toNatClampNeg) - (Fslopes v1.toNatClampNeg))))) else if (Fkinds v1.toNatClampNeg) = 3 then gi (Flefts v1.toNatClampNeg) 60 (gi (Flefts v1.toNatClampNeg) 60 (gi (Frights v1.toNatClampNeg) 60 (gi (Frights v1.toNatClampNeg) 60 (some (vp_updL (vp_updL Fslopes ((Flefts v1.toNatClampNeg).toNatClampNeg) ((Fslopes (Flefts v1.toNatClampNeg).toNatClampNeg) + (Fslopes v1.toNatClampNeg))) ((Frights v1.toNatClampNeg).toNatClampNeg) (((vp_updL Fslopes ((Flefts v1.toNatClampNeg).toNatClampNeg) ((Fslopes (Flefts v1.toNatClampNeg).toNatClampNeg) + (Fslopes v1.toNatClampNeg))) (Frights v1.toNatClampNeg).toNatClampNeg) + (Fslopes v1.toNatClampNeg))))))) else if (Fkinds v1.toNatClampNeg) = 4 then gi (Flefts v1.toNatClampNeg) 60 (gi (Flefts v1.toNatClampNeg) 60 (gi (Frights v1.toNatClampNeg) 60 (gi (Frights v1.toNatClampNeg) 60 (some (vp_updL (vp_updL Fslopes ((Flefts v1.toNatClampNeg).toNatClampNeg) ((Fslopes (Flefts v1.toNatClampNeg).toNatClampNeg) + (Fslopes v1.toNatClampNeg))) ((Frights v1.toNatClampNeg).toNatClampNeg) (((vp_updL Fslopes ((Flefts v1.toNatClampNeg).toNatClampNeg) ((Fslopes (Flefts v1.toNatClampNeg).toNatClampNeg) + (Fslopes v1.toNatClampNeg))) (Frights v1.toNatClampNeg).toNatClampNeg) - (Fslopes v1.toNatClampNeg))))))) else if (Fkinds v1.toNatClampNeg) = 5 then gi (Flefts v1.toNatClampNeg) 60 (gi (Frights v1.toNatClampNeg) 60 (gi (Flefts v1.toNatClampNeg) 60 (gi (Frights v1.toNatClampNeg) 60 (gi (Flefts v1.toNatClampNeg) 60 (gi (Frights v1.toNatClampNeg) 60 (some (vp_updL (vp_updL Fslopes ((Flefts v1.toNatClampNeg).toNatClampNeg) ((Fslopes (Flefts v1.toNatClampNeg).toNatClampNeg) + ((Fslopes v1.toNatClampNeg) * (Fvalues (Frights v1.toNatClampNeg).toNatClampNeg)))) ((Frights v1.toNatClampNeg).toNatClampNeg) (((vp_updL Fslopes ((Flefts v1.toNatClampNeg).toNatClampNeg) ((Fslopes (Flefts v1.toNatClampNeg).toNatClampNeg) + ((Fslopes v1.toNatClampNeg) * (Fvalues (Frights v1.toNatClampNeg).toNatClampNeg)))) (Frights v1.toNatClampNeg).toNatClampNeg) + ((Fslopes v1.toNatClampNeg) * (Fvalues (Flefts v1.toNatClampNeg).toNatClampNeg)))))))))) else gi (Flefts v1.toNatClampNeg) 60 (bnd1 (fX3_powerSlope v1 Flefts Frights Fvalues) (fun r26 => gi (Flefts v1.toNatClampNeg) 60 (some (vp_updL Fslopes ((Flefts v1.toNatClampNeg).toNatClampNeg) ((Fslopes (Flefts v1.toNatClampNeg).toNatClampNeg) + ((Fslopes v1.toNatClampNeg) * r26)))))))))))
abbrev rmX3_handDown : Room := { frames := 2, cells := 0, slots := 0, locals := 47 }
set_option maxHeartbeats 4000000 in
set_option maxRecDepth 100000 in
theorem met_X3_handDown (l : Launch) (D : va_G) (k : Nat → ClassId) (aF : Nat → Nat) (sz : Nat) (Fkinds : Nat → Int32) (Flefts : Nat → Int32) (Frights : Nat → Int32) (Fplaces : Nat → Int32) (Fvalues : Nat → Int64) (Fslopes : Nat → Int64) (Fexponents : Nat → Int32) (Fsize : Int32) (Froot : Int32) (v1 : Int32) (RFslopes : Nat → Int64) (h : fX3_handDown v1 Fkinds Flefts Frights Fvalues Fslopes = some RFslopes) : Met l yX3_handDown wsX3_handDown rmX3_handDown (va_Pc [.ref (aF 0), .int v1] (PreW D k (wF k aF Fkinds Flefts Frights Fplaces Fvalues Fslopes Fexponents Fsize Froot) sz)) (va_Qv (fun _ : Unit => True) (fun _ t => PostW D k (va_A (wF k aF Fkinds Flefts Frights Fplaces Fvalues Fslopes Fexponents Fsize Froot) sz) (wF k aF Fkinds Flefts Frights Fplaces Fvalues RFslopes Fexponents Fsize Froot) t) (va_A (wF k aF Fkinds Flefts Frights Fplaces Fvalues Fslopes Fexponents Fsize Froot) sz)) 0 0 (va_A (wF k aF Fkinds Flefts Frights Fplaces Fvalues Fslopes Fexponents Fsize Froot) sz) := by
  refine Met.ofW (cc := cX3_handDown) (maxL := 6) (ret := none) (by decide) rfl ?_
  intro p e s m args below meth c s₁ B hml hv
  obtain ⟨hav, hsz, hP, hK, hD0⟩ := hv
  have hx := B.exec
  have hb := B.bytes
  have hr := B.returns
  have hts := atoms_spec (ws := wsX3_handDown) B.pre
  have hown : s.vm.findClass RX3 = some m.cls := findClass_of_methodNamed B.named
  have hlocks := B.notSynchronized
  subst hsz
  have hD := hD0.self (sz := s.heap.size)
  clear hD0
  generalize hAe : va_A (wF k aF Fkinds Flefts Frights Fplaces Fvalues Fslopes Fexponents Fsize Froot) s.heap.size = A at hD ⊢
  have hA : ∀ q : Nat, s.heap.size ≤ q → A q := fun q h => by rw [← hAe]; exact Or.inr h
  have hS : va_S A s.heap s.heap [] := va_S.rf
  have hl := lv_entry ([.ref (aF 0), .int v1]) (n := 6) (Nat.le_of_ble_eq_true rfl)
  rw [show entryFrame m args 6 = entryFrame m ([.ref (aF 0), .int v1] : List Value).toArray 6 from by rw [hav], lg_entry_eq]
  generalize (lg_sl ([.ref (aF 0), .int v1]) ++ List.replicate (6 - (lg_sl ([.ref (aF 0), .int v1])).length) Slot.unset).toArray = ls at hl ⊢
  replace hl : lv_has ls 6 [(0, .ref (aF 0)), (1, .int v1)] := hl
  have f9 := hts (.fieldLink RX3 9 "UncertainBook$Formula" "kinds" "[I") (by decide +kernel)
  have f15 := hts (.fieldLink RX3 15 "UncertainBook$Formula" "lefts" "[I") (by decide +kernel)
  have f18 := hts (.fieldLink RX3 18 "UncertainBook$Formula" "rights" "[I") (by decide +kernel)
  have f24 := hts (.fieldLink RX3 24 "UncertainBook$Formula" "values" "[J") (by decide +kernel)
  have f28 := hts (.fieldLink RX3 28 "UncertainBook$Formula" "slopes" "[J") (by decide +kernel)
  have iX3 : ∀ w ∈ u_ws RX3 TX3 9, w ∈ wsX3_handDown := by decide +kernel
  refine w_q (fun Q hQ => ?_)
  unfold fX3_handDown at h
  show W p l e rmX3_handDown s m args below meth c s.heap [] 0 0 Q (F0 m 0 ls [])
  suffices main : ∀ (H : Heap) (locs : List Loc) (ls : Array Slot), va_P D vwCl (wF k aF Fkinds Flefts Frights Fplaces Fvalues Fslopes Fexponents Fsize Froot) H → va_D A (wF k aF Fkinds Flefts Frights Fplaces Fvalues Fslopes Fexponents Fsize Froot) → va_S A s.heap H locs → lv_has ls 6 [(0, .ref (aF 0)), (1, .int v1)] → W p l e rmX3_handDown s m args below meth c H locs 0 0 Q (F0 m 0 ls []) from main _ _ _ hP hD hS hl
  clear hP hD hS hl ls hAe
  intro H locs ls hP hD hS hl
  refine lv_aload_n hx hb dX3_handDown_0 rfl (lv_at hl 0 rfl) ?_
  refine va_get (D := D) (ci := 3) (v := .ref (aF 2)) (C := RX3) (T := TX3) (N := 9) hx hb hts iX3 hown hK hP 0 rfl rfl 1 (by decide) f15 (fun _ h9 => h9) rfl dX3_handDown_1 ?_
  refine lv_iload_n hx hb dX3_handDown_4 rfl (lv_at hl 1 rfl) ?_
  obtain ⟨hi1, h⟩ := gi_inv h
  refine va_iald hx hb hK hP 2 0 rfl rfl hi1 dX3_handDown_5 ?_
  refine lv_istore_n (lv' := [(2, .int (Flefts v1.toNatClampNeg)), (0, .ref (aF 0)), (1, .int v1)]) hx hb dX3_handDown_6 rfl hl (by decide) rfl (fun ls hl => ?_)
  refine lv_aload_n hx hb dX3_handDown_7 rfl (lv_at hl 1 rfl) ?_
  refine va_get (D := D) (ci := 3) (v := .ref (aF 3)) (C := RX3) (T := TX3) (N := 9) hx hb hts iX3 hown hK hP 0 rfl rfl 2 (by decide) f18 (fun _ h9 => h9) rfl dX3_handDown_8 ?_
  refine lv_iload_n hx hb dX3_handDown_11 rfl (lv_at hl 2 rfl) ?_
  obtain ⟨hi2, h⟩ := gi_inv h
  refine va_iald hx hb hK hP 3 0 rfl rfl hi2 dX3_handDown_12 ?_
  refine lv_istore_n (lv' := [(3, .int (Frights v1.toNatClampNeg)), (2, .int (Flefts v1.toNatClampNeg)), (0, .ref (aF 0)), (1, .int v1)]) hx hb dX3_handDown_13 rfl hl (by decide) rfl (fun ls hl => ?_)
  refine lv_aload_n hx hb dX3_handDown_14 rfl (lv_at hl 2 rfl) ?_
  refine va_get (D := D) (ci := 3) (v := .ref (aF 6)) (C := RX3) (T := TX3) (N := 9) hx hb hts iX3 hown hK hP 0 rfl rfl 5 (by decide) f28 (fun _ h9 => h9) rfl dX3_handDown_15 ?_
  refine lv_iload_n hx hb dX3_handDown_18 rfl (lv_at hl 3 rfl) ?_
  obtain ⟨hi3, h⟩ := gi_inv h
  refine va_lald hx hb hK hP 6 1 rfl rfl hi3 dX3_handDown_19 ?_
  refine lv_lstore (lv' := [(4, .long (Fslopes v1.toNatClampNeg)), (3, .int (Frights v1.toNatClampNeg)), (2, .int (Flefts v1.toNatClampNeg)), (0, .ref (aF 0)), (1, .int v1)]) hx hb dX3_handDown_20 hl (by decide) rfl (fun ls hl => ?_)
  refine lv_aload_n hx hb dX3_handDown_22 rfl (lv_at hl 3 rfl) ?_
  refine va_get (D := D) (ci := 3) (v := .ref (aF 1)) (C := RX3) (T := TX3) (N := 9) hx hb hts iX3 hown hK hP 0 rfl rfl 0 (by decide) f9 (fun _ h9 => h9) rfl dX3_handDown_23 ?_
  refine lv_iload_n hx hb dX3_handDown_26 rfl (lv_at hl 4 rfl) ?_
  obtain ⟨hi4, h⟩ := gi_inv h
  refine va_iald hx hb hK hP 1 0 rfl rfl hi4 dX3_handDown_27 ?_
  rcases Decidable.em ((Fkinds v1.toNatClampNeg) = 2) with c5 | c5
  · replace h := sf_t c5 h
    refine lv_tableIn (off := 32) (tgt := 60) hx hb dX3_handDown_28 (by rw [c5]; decide) (by rw [c5]; decide) (by rw [c5]; rfl) (by decide) ?_
    refine lv_aload_n hx hb dX3_handDown_60 rfl (lv_at hl 3 rfl) ?_
    refine va_get (D := D) (ci := 3) (v := .ref (aF 6)) (C := RX3) (T := TX3) (N := 9) hx hb hts iX3 hown hK hP 0 rfl rfl 5 (by decide) f28 (fun _ h9 => h9) rfl dX3_handDown_61 ?_
    refine lv_iload_n hx hb dX3_handDown_64 rfl (lv_at hl 2 rfl) ?_
    refine lv_dup2_11 hx hb dX3_handDown_65 rfl rfl ?_
    obtain ⟨hi6, h⟩ := gi_inv h
    refine va_lald hx hb hK hP 6 1 rfl rfl hi6 dX3_handDown_66 ?_
    refine lv_lload hx hb dX3_handDown_67 (lv_at hl 0 rfl) ?_
    refine lv_lsub hx hb dX3_handDown_69 ?_
    obtain ⟨hi7, h⟩ := gi_inv h
    refine va_last hx hb hK hP hD hS 6 1 rfl rfl hi7 dX3_handDown_70 (fun H locs hP hD hS => ?_)
    replace hP : va_P D vwCl (wF k aF Fkinds Flefts Frights Fplaces Fvalues (vp_updL Fslopes ((Flefts v1.toNatClampNeg).toNatClampNeg) ((Fslopes (Flefts v1.toNatClampNeg).toNatClampNeg) - (Fslopes v1.toNatClampNeg))) Fexponents Fsize Froot) H := hP
    replace hD : va_D A (wF k aF Fkinds Flefts Frights Fplaces Fvalues (vp_updL Fslopes ((Flefts v1.toNatClampNeg).toNatClampNeg) ((Fslopes (Flefts v1.toNatClampNeg).toNatClampNeg) - (Fslopes v1.toNatClampNeg))) Fexponents Fsize Froot) := hD
    refine lv_goto (tgt := 180) hx hb dX3_handDown_71 (by decide) ?_
    subst hQ
    cases h
    exact W.vret hx hb hr (fun t ht hW => ⟨⟨(), rfl, trivial, by rw [ht]; exact hP, va_K.moved hW.alike hK, hD⟩, hS.F ht⟩) hS.2.2 dX3_handDown_180
  replace h := sf_f c5 h
  rcases Decidable.em ((Fkinds v1.toNatClampNeg) = 3) with c8 | c8
  · replace h := sf_t c8 h
    refine lv_tableIn (off := 46) (tgt := 74) hx hb dX3_handDown_28 (by rw [c8]; decide) (by rw [c8]; decide) (by rw [c8]; rfl) (by decide) ?_
    refine lv_aload_n hx hb dX3_handDown_74 rfl (lv_at hl 3 rfl) ?_
    refine va_get (D := D) (ci := 3) (v := .ref (aF 6)) (C := RX3) (T := TX3) (N := 9) hx hb hts iX3 hown hK hP 0 rfl rfl 5 (by decide) f28 (fun _ h9 => h9) rfl dX3_handDown_75 ?_
    refine lv_iload_n hx hb dX3_handDown_78 rfl (lv_at hl 2 rfl) ?_
    refine lv_dup2_11 hx hb dX3_handDown_79 rfl rfl ?_
    obtain ⟨hi9, h⟩ := gi_inv h
    refine va_lald hx hb hK hP 6 1 rfl rfl hi9 dX3_handDown_80 ?_
    refine lv_lload hx hb dX3_handDown_81 (lv_at hl 0 rfl) ?_
    refine lv_ladd hx hb dX3_handDown_83 ?_
    obtain ⟨hi10, h⟩ := gi_inv h
    refine va_last hx hb hK hP hD hS 6 1 rfl rfl hi10 dX3_handDown_84 (fun H locs hP hD hS => ?_)
    replace hP : va_P D vwCl (wF k aF Fkinds Flefts Frights Fplaces Fvalues (vp_updL Fslopes ((Flefts v1.toNatClampNeg).toNatClampNeg) ((Fslopes (Flefts v1.toNatClampNeg).toNatClampNeg) + (Fslopes v1.toNatClampNeg))) Fexponents Fsize Froot) H := hP
    replace hD : va_D A (wF k aF Fkinds Flefts Frights Fplaces Fvalues (vp_updL Fslopes ((Flefts v1.toNatClampNeg).toNatClampNeg) ((Fslopes (Flefts v1.toNatClampNeg).toNatClampNeg) + (Fslopes v1.toNatClampNeg))) Fexponents Fsize Froot) := hD
    refine lv_aload_n hx hb dX3_handDown_85 rfl (lv_at hl 3 rfl) ?_
    refine va_get (D := D) (ci := 3) (v := .ref (aF 6)) (C := RX3) (T := TX3) (N := 9) hx hb hts iX3 hown hK hP 0 rfl rfl 5 (by decide) f28 (fun _ h9 => h9) rfl dX3_handDown_86 ?_
    refine lv_iload_n hx hb dX3_handDown_89 rfl (lv_at hl 1 rfl) ?_
    refine lv_dup2_11 hx hb dX3_handDown_90 rfl rfl ?_
    obtain ⟨hi11, h⟩ := gi_inv h
    refine va_lald hx hb hK hP 6 1 rfl rfl hi11 dX3_handDown_91 ?_
    refine lv_lload hx hb dX3_handDown_92 (lv_at hl 0 rfl) ?_
    refine lv_ladd hx hb dX3_handDown_94 ?_
    obtain ⟨hi12, h⟩ := gi_inv h
    refine va_last hx hb hK hP hD hS 6 1 rfl rfl hi12 dX3_handDown_95 (fun H locs hP hD hS => ?_)
    replace hP : va_P D vwCl (wF k aF Fkinds Flefts Frights Fplaces Fvalues (vp_updL (vp_updL Fslopes ((Flefts v1.toNatClampNeg).toNatClampNeg) ((Fslopes (Flefts v1.toNatClampNeg).toNatClampNeg) + (Fslopes v1.toNatClampNeg))) ((Frights v1.toNatClampNeg).toNatClampNeg) (((vp_updL Fslopes ((Flefts v1.toNatClampNeg).toNatClampNeg) ((Fslopes (Flefts v1.toNatClampNeg).toNatClampNeg) + (Fslopes v1.toNatClampNeg))) (Frights v1.toNatClampNeg).toNatClampNeg) + (Fslopes v1.toNatClampNeg))) Fexponents Fsize Froot) H := hP
    replace hD : va_D A (wF k aF Fkinds Flefts Frights Fplaces Fvalues (vp_updL (vp_updL Fslopes ((Flefts v1.toNatClampNeg).toNatClampNeg) ((Fslopes (Flefts v1.toNatClampNeg).toNatClampNeg) + (Fslopes v1.toNatClampNeg))) ((Frights v1.toNatClampNeg).toNatClampNeg) (((vp_updL Fslopes ((Flefts v1.toNatClampNeg).toNatClampNeg) ((Fslopes (Flefts v1.toNatClampNeg).toNatClampNeg) + (Fslopes v1.toNatClampNeg))) (Frights v1.toNatClampNeg).toNatClampNeg) + (Fslopes v1.toNatClampNeg))) Fexponents Fsize Froot) := hD
    refine lv_goto (tgt := 180) hx hb dX3_handDown_96 (by decide) ?_
    subst hQ
    cases h
    exact W.vret hx hb hr (fun t ht hW => ⟨⟨(), rfl, trivial, by rw [ht]; exact hP, va_K.moved hW.alike hK, hD⟩, hS.F ht⟩) hS.2.2 dX3_handDown_180
  replace h := sf_f c8 h
  rcases Decidable.em ((Fkinds v1.toNatClampNeg) = 4) with c13 | c13
  · replace h := sf_t c13 h
    refine lv_tableIn (off := 71) (tgt := 99) hx hb dX3_handDown_28 (by rw [c13]; decide) (by rw [c13]; decide) (by rw [c13]; rfl) (by decide) ?_
    refine lv_aload_n hx hb dX3_handDown_99 rfl (lv_at hl 3 rfl) ?_
    refine va_get (D := D) (ci := 3) (v := .ref (aF 6)) (C := RX3) (T := TX3) (N := 9) hx hb hts iX3 hown hK hP 0 rfl rfl 5 (by decide) f28 (fun _ h9 => h9) rfl dX3_handDown_100 ?_
    refine lv_iload_n hx hb dX3_handDown_103 rfl (lv_at hl 2 rfl) ?_
    refine lv_dup2_11 hx hb dX3_handDown_104 rfl rfl ?_
    obtain ⟨hi14, h⟩ := gi_inv h
    refine va_lald hx hb hK hP 6 1 rfl rfl hi14 dX3_handDown_105 ?_
    refine lv_lload hx hb dX3_handDown_106 (lv_at hl 0 rfl) ?_
    refine lv_ladd hx hb dX3_handDown_108 ?_
    obtain ⟨hi15, h⟩ := gi_inv h
    refine va_last hx hb hK hP hD hS 6 1 rfl rfl hi15 dX3_handDown_109 (fun H locs hP hD hS => ?_)
    replace hP : va_P D vwCl (wF k aF Fkinds Flefts Frights Fplaces Fvalues (vp_updL Fslopes ((Flefts v1.toNatClampNeg).toNatClampNeg) ((Fslopes (Flefts v1.toNatClampNeg).toNatClampNeg) + (Fslopes v1.toNatClampNeg))) Fexponents Fsize Froot) H := hP
    replace hD : va_D A (wF k aF Fkinds Flefts Frights Fplaces Fvalues (vp_updL Fslopes ((Flefts v1.toNatClampNeg).toNatClampNeg) ((Fslopes (Flefts v1.toNatClampNeg).toNatClampNeg) + (Fslopes v1.toNatClampNeg))) Fexponents Fsize Froot) := hD
    refine lv_aload_n hx hb dX3_handDown_110 rfl (lv_at hl 3 rfl) ?_
    refine va_get (D := D) (ci := 3) (v := .ref (aF 6)) (C := RX3) (T := TX3) (N := 9) hx hb hts iX3 hown hK hP 0 rfl rfl 5 (by decide) f28 (fun _ h9 => h9) rfl dX3_handDown_111 ?_
    refine lv_iload_n hx hb dX3_handDown_114 rfl (lv_at hl 1 rfl) ?_
    refine lv_dup2_11 hx hb dX3_handDown_115 rfl rfl ?_
    obtain ⟨hi16, h⟩ := gi_inv h
    refine va_lald hx hb hK hP 6 1 rfl rfl hi16 dX3_handDown_116 ?_
    refine lv_lload hx hb dX3_handDown_117 (lv_at hl 0 rfl) ?_
    refine lv_lsub hx hb dX3_handDown_119 ?_
    obtain ⟨hi17, h⟩ := gi_inv h
    refine va_last hx hb hK hP hD hS 6 1 rfl rfl hi17 dX3_handDown_120 (fun H locs hP hD hS => ?_)
    replace hP : va_P D vwCl (wF k aF Fkinds Flefts Frights Fplaces Fvalues (vp_updL (vp_updL Fslopes ((Flefts v1.toNatClampNeg).toNatClampNeg) ((Fslopes (Flefts v1.toNatClampNeg).toNatClampNeg) + (Fslopes v1.toNatClampNeg))) ((Frights v1.toNatClampNeg).toNatClampNeg) (((vp_updL Fslopes ((Flefts v1.toNatClampNeg).toNatClampNeg) ((Fslopes (Flefts v1.toNatClampNeg).toNatClampNeg) + (Fslopes v1.toNatClampNeg))) (Frights v1.toNatClampNeg).toNatClampNeg) - (Fslopes v1.toNatClampNeg))) Fexponents Fsize Froot) H := hP
    replace hD : va_D A (wF k aF Fkinds Flefts Frights Fplaces Fvalues (vp_updL (vp_updL Fslopes ((Flefts v1.toNatClampNeg).toNatClampNeg) ((Fslopes (Flefts v1.toNatClampNeg).toNatClampNeg) + (Fslopes v1.toNatClampNeg))) ((Frights v1.toNatClampNeg).toNatClampNeg) (((vp_updL Fslopes ((Flefts v1.toNatClampNeg).toNatClampNeg) ((Fslopes (Flefts v1.toNatClampNeg).toNatClampNeg) + (Fslopes v1.toNatClampNeg))) (Frights v1.toNatClampNeg).toNatClampNeg) - (Fslopes v1.toNatClampNeg))) Fexponents Fsize Froot) := hD
    refine lv_goto (tgt := 180) hx hb dX3_handDown_121 (by decide) ?_
    subst hQ
    cases h
    exact W.vret hx hb hr (fun t ht hW => ⟨⟨(), rfl, trivial, by rw [ht]; exact hP, va_K.moved hW.alike hK, hD⟩, hS.F ht⟩) hS.2.2 dX3_handDown_180
  replace h := sf_f c13 h
  rcases Decidable.em ((Fkinds v1.toNatClampNeg) = 5) with c18 | c18
  · replace h := sf_t c18 h
    refine lv_tableIn (off := 96) (tgt := 124) hx hb dX3_handDown_28 (by rw [c18]; decide) (by rw [c18]; decide) (by rw [c18]; rfl) (by decide) ?_
    refine lv_aload_n hx hb dX3_handDown_124 rfl (lv_at hl 3 rfl) ?_
    refine va_get (D := D) (ci := 3) (v := .ref (aF 6)) (C := RX3) (T := TX3) (N := 9) hx hb hts iX3 hown hK hP 0 rfl rfl 5 (by decide) f28 (fun _ h9 => h9) rfl dX3_handDown_125 ?_
    refine lv_iload_n hx hb dX3_handDown_128 rfl (lv_at hl 2 rfl) ?_
    refine lv_dup2_11 hx hb dX3_handDown_129 rfl rfl ?_
    obtain ⟨hi19, h⟩ := gi_inv h
    refine va_lald hx hb hK hP 6 1 rfl rfl hi19 dX3_handDown_130 ?_
    refine lv_lload hx hb dX3_handDown_131 (lv_at hl 0 rfl) ?_
    refine lv_aload_n hx hb dX3_handDown_133 rfl (lv_at hl 3 rfl) ?_
    refine va_get (D := D) (ci := 3) (v := .ref (aF 5)) (C := RX3) (T := TX3) (N := 9) hx hb hts iX3 hown hK hP 0 rfl rfl 4 (by decide) f24 (fun _ h9 => h9) rfl dX3_handDown_134 ?_
    refine lv_iload_n hx hb dX3_handDown_137 rfl (lv_at hl 1 rfl) ?_
    obtain ⟨hi20, h⟩ := gi_inv h
    refine va_lald hx hb hK hP 5 1 rfl rfl hi20 dX3_handDown_138 ?_
    refine lv_lmul hx hb dX3_handDown_139 ?_
    refine lv_ladd hx hb dX3_handDown_140 ?_
    obtain ⟨hi21, h⟩ := gi_inv h
    refine va_last hx hb hK hP hD hS 6 1 rfl rfl hi21 dX3_handDown_141 (fun H locs hP hD hS => ?_)
    replace hP : va_P D vwCl (wF k aF Fkinds Flefts Frights Fplaces Fvalues (vp_updL Fslopes ((Flefts v1.toNatClampNeg).toNatClampNeg) ((Fslopes (Flefts v1.toNatClampNeg).toNatClampNeg) + ((Fslopes v1.toNatClampNeg) * (Fvalues (Frights v1.toNatClampNeg).toNatClampNeg)))) Fexponents Fsize Froot) H := hP
    replace hD : va_D A (wF k aF Fkinds Flefts Frights Fplaces Fvalues (vp_updL Fslopes ((Flefts v1.toNatClampNeg).toNatClampNeg) ((Fslopes (Flefts v1.toNatClampNeg).toNatClampNeg) + ((Fslopes v1.toNatClampNeg) * (Fvalues (Frights v1.toNatClampNeg).toNatClampNeg)))) Fexponents Fsize Froot) := hD
    refine lv_aload_n hx hb dX3_handDown_142 rfl (lv_at hl 3 rfl) ?_
    refine va_get (D := D) (ci := 3) (v := .ref (aF 6)) (C := RX3) (T := TX3) (N := 9) hx hb hts iX3 hown hK hP 0 rfl rfl 5 (by decide) f28 (fun _ h9 => h9) rfl dX3_handDown_143 ?_
    refine lv_iload_n hx hb dX3_handDown_146 rfl (lv_at hl 1 rfl) ?_
    refine lv_dup2_11 hx hb dX3_handDown_147 rfl rfl ?_
    obtain ⟨hi22, h⟩ := gi_inv h
    refine va_lald hx hb hK hP 6 1 rfl rfl hi22 dX3_handDown_148 ?_
    refine lv_lload hx hb dX3_handDown_149 (lv_at hl 0 rfl) ?_
    refine lv_aload_n hx hb dX3_handDown_151 rfl (lv_at hl 3 rfl) ?_
    refine va_get (D := D) (ci := 3) (v := .ref (aF 5)) (C := RX3) (T := TX3) (N := 9) hx hb hts iX3 hown hK hP 0 rfl rfl 4 (by decide) f24 (fun _ h9 => h9) rfl dX3_handDown_152 ?_
    refine lv_iload_n hx hb dX3_handDown_155 rfl (lv_at hl 2 rfl) ?_
    obtain ⟨hi23, h⟩ := gi_inv h
    refine va_lald hx hb hK hP 5 1 rfl rfl hi23 dX3_handDown_156 ?_
    refine lv_lmul hx hb dX3_handDown_157 ?_
    refine lv_ladd hx hb dX3_handDown_158 ?_
    obtain ⟨hi24, h⟩ := gi_inv h
    refine va_last hx hb hK hP hD hS 6 1 rfl rfl hi24 dX3_handDown_159 (fun H locs hP hD hS => ?_)
    replace hP : va_P D vwCl (wF k aF Fkinds Flefts Frights Fplaces Fvalues (vp_updL (vp_updL Fslopes ((Flefts v1.toNatClampNeg).toNatClampNeg) ((Fslopes (Flefts v1.toNatClampNeg).toNatClampNeg) + ((Fslopes v1.toNatClampNeg) * (Fvalues (Frights v1.toNatClampNeg).toNatClampNeg)))) ((Frights v1.toNatClampNeg).toNatClampNeg) (((vp_updL Fslopes ((Flefts v1.toNatClampNeg).toNatClampNeg) ((Fslopes (Flefts v1.toNatClampNeg).toNatClampNeg) + ((Fslopes v1.toNatClampNeg) * (Fvalues (Frights v1.toNatClampNeg).toNatClampNeg)))) (Frights v1.toNatClampNeg).toNatClampNeg) + ((Fslopes v1.toNatClampNeg) * (Fvalues (Flefts v1.toNatClampNeg).toNatClampNeg)))) Fexponents Fsize Froot) H := hP
    replace hD : va_D A (wF k aF Fkinds Flefts Frights Fplaces Fvalues (vp_updL (vp_updL Fslopes ((Flefts v1.toNatClampNeg).toNatClampNeg) ((Fslopes (Flefts v1.toNatClampNeg).toNatClampNeg) + ((Fslopes v1.toNatClampNeg) * (Fvalues (Frights v1.toNatClampNeg).toNatClampNeg)))) ((Frights v1.toNatClampNeg).toNatClampNeg) (((vp_updL Fslopes ((Flefts v1.toNatClampNeg).toNatClampNeg) ((Fslopes (Flefts v1.toNatClampNeg).toNatClampNeg) + ((Fslopes v1.toNatClampNeg) * (Fvalues (Frights v1.toNatClampNeg).toNatClampNeg)))) (Frights v1.toNatClampNeg).toNatClampNeg) + ((Fslopes v1.toNatClampNeg) * (Fvalues (Flefts v1.toNatClampNeg).toNatClampNeg)))) Fexponents Fsize Froot) := hD
    refine lv_goto (tgt := 180) hx hb dX3_handDown_160 (by decide) ?_
    subst hQ
    cases h
    exact W.vret hx hb hr (fun t ht hW => ⟨⟨(), rfl, trivial, by rw [ht]; exact hP, va_K.moved hW.alike hK, hD⟩, hS.F ht⟩) hS.2.2 dX3_handDown_180
  replace h := sf_f c18 h
  refine lv_tableOut (tgt := 163) hx hb dX3_handDown_28 (by have z0 := lv_neT (a := 2) c5 rfl; have z1 := lv_neT (a := 3) c8 rfl; have z2 := lv_neT (a := 4) c13 rfl; have z3 := lv_neT (a := 5) c18 rfl; omega) (by decide) ?_
  refine lv_aload_n hx hb dX3_handDown_163 rfl (lv_at hl 3 rfl) ?_
  refine va_get (D := D) (ci := 3) (v := .ref (aF 6)) (C := RX3) (T := TX3) (N := 9) hx hb hts iX3 hown hK hP 0 rfl rfl 5 (by decide) f28 (fun _ h9 => h9) rfl dX3_handDown_164 ?_
  refine lv_iload_n hx hb dX3_handDown_167 rfl (lv_at hl 2 rfl) ?_
  refine lv_dup2_11 hx hb dX3_handDown_168 rfl rfl ?_
  obtain ⟨hi25, h⟩ := gi_inv h
  refine va_lald hx hb hK hP 6 1 rfl rfl hi25 dX3_handDown_169 ?_
  refine lv_lload hx hb dX3_handDown_170 (lv_at hl 0 rfl) ?_
  refine lv_aload_n hx hb dX3_handDown_172 rfl (lv_at hl 3 rfl) ?_
  refine lv_iload_n hx hb dX3_handDown_173 rfl (lv_at hl 4 rfl) ?_
  obtain ⟨r26, hc26, h⟩ := bnd1_inv h
  have hFc := va_free (wc := (wF k aF Fkinds Flefts Frights Fplaces Fvalues Fslopes Fexponents Fsize Froot)) hD hS hA [0, 1, 2, 3, 4, 5, 6, 7] rfl
  refine xc_l (va_runV (As := [.int v1]) (rest := [.long (Fslopes v1.toNatClampNeg), .long (Fslopes (Flefts v1.toNatClampNeg).toNatClampNeg), .int (Flefts v1.toNatClampNeg), .ref (aF 6)]) ⟨hx, hb, hml, hown, hts⟩ (met_X3_powerSlope l D k aF H.size Fkinds Flefts Frights Fplaces Fvalues Fslopes Fexponents Fsize Froot v1 r26 hc26) (cwV 1 hts gX3_handDown_X3_powerSlope rfl rfl rfl (by decide +kernel) ⟨Nat.le_of_ble_eq_true rfl, Nat.le_of_ble_eq_true rfl⟩) ⟨pw_blind, va_recv hK hP (ci := 3) (q0 := 0) rfl rfl, pw_start hP hK hD⟩ rfl rfl hl.1 rfl (lv_room (Nat.le_of_ble_eq_true rfl)) dX3_handDown_174 ⟨Nat.zero_le _, Nat.zero_le _⟩) hS hFc (fun H1 locs hP1 hD1 hk1 hS => ?_)
  obtain ⟨hP, hD⟩ := vj_all hFc hP1 hD1
  clear hP1 hD1 hk1 hFc
  generalize H1 = H at hP hS ⊢
  refine lv_lmul hx hb dX3_handDown_177 ?_
  refine lv_ladd hx hb dX3_handDown_178 ?_
  obtain ⟨hi27, h⟩ := gi_inv h
  refine va_last hx hb hK hP hD hS 6 1 rfl rfl hi27 dX3_handDown_179 (fun H locs hP hD hS => ?_)
  replace hP : va_P D vwCl (wF k aF Fkinds Flefts Frights Fplaces Fvalues (vp_updL Fslopes ((Flefts v1.toNatClampNeg).toNatClampNeg) ((Fslopes (Flefts v1.toNatClampNeg).toNatClampNeg) + ((Fslopes v1.toNatClampNeg) * r26))) Fexponents Fsize Froot) H := hP
  replace hD : va_D A (wF k aF Fkinds Flefts Frights Fplaces Fvalues (vp_updL Fslopes ((Flefts v1.toNatClampNeg).toNatClampNeg) ((Fslopes (Flefts v1.toNatClampNeg).toNatClampNeg) + ((Fslopes v1.toNatClampNeg) * r26))) Fexponents Fsize Froot) := hD
  subst hQ
  cases h
  exact W.vret hx hb hr (fun t ht hW => ⟨⟨(), rfl, trivial, by rw [ht]; exact hP, va_K.moved hW.alike hK, hD⟩, hS.F ht⟩) hS.2.2 dX3_handDown_180
def fX3_reckonPart (v1 : Int32) (Fkinds : Nat → Int32) (Flefts : Nat → Int32) (Frights : Nat → Int32) (Fvalues : Nat → Int64) (uA : Nat → Int32) : Option (Int64) := gi v1 60 (gi v1 60 (gi v1 60 ((if (Fkinds v1.toNatClampNeg) = 0 then some ((Flefts v1.toNatClampNeg).toInt64) else if (Fkinds v1.toNatClampNeg) = 1 then gi (Flefts v1.toNatClampNeg) 6 (some ((uA (Flefts v1.toNatClampNeg).toNatClampNeg).toInt64)) else if (Fkinds v1.toNatClampNeg) = 2 then gi (Flefts v1.toNatClampNeg) 60 (some (-(Fvalues (Flefts v1.toNatClampNeg).toNatClampNeg))) else if (Fkinds v1.toNatClampNeg) = 3 then gi (Flefts v1.toNatClampNeg) 60 (gi (Frights v1.toNatClampNeg) 60 (some ((Fvalues (Flefts v1.toNatClampNeg).toNatClampNeg) + (Fvalues (Frights v1.toNatClampNeg).toNatClampNeg)))) else if (Fkinds v1.toNatClampNeg) = 4 then gi (Flefts v1.toNatClampNeg) 60 (gi (Frights v1.toNatClampNeg) 60 (some ((Fvalues (Flefts v1.toNatClampNeg).toNatClampNeg) - (Fvalues (Frights v1.toNatClampNeg).toNatClampNeg)))) else if (Fkinds v1.toNatClampNeg) = 5 then gi (Flefts v1.toNatClampNeg) 60 (gi (Frights v1.toNatClampNeg) 60 (some ((Fvalues (Flefts v1.toNatClampNeg).toNatClampNeg) * (Fvalues (Frights v1.toNatClampNeg).toNatClampNeg)))) else gi (Flefts v1.toNatClampNeg) 60 (bnd1 (fX3_power (Fvalues (Flefts v1.toNatClampNeg).toNatClampNeg) (Frights v1.toNatClampNeg)) (fun r19 => some (r19)))))))
abbrev rmX3_reckonPart : Room := { frames := 1, cells := 0, slots := 0, locals := 25 }
set_option maxHeartbeats 4000000 in
set_option maxRecDepth 100000 in
theorem met_X3_reckonPart (l : Launch) (D : va_G) (k : Nat → ClassId) (aF : Nat → Nat) (qu : Nat) (sz : Nat) (Fkinds : Nat → Int32) (Flefts : Nat → Int32) (Frights : Nat → Int32) (Fplaces : Nat → Int32) (Fvalues : Nat → Int64) (Fslopes : Nat → Int64) (Fexponents : Nat → Int32) (Fsize : Int32) (Froot : Int32) (uA : Nat → Int32) (v1 : Int32) (r : Int64) (h : fX3_reckonPart v1 Fkinds Flefts Frights Fvalues uA = some r) : Met l yX3_reckonPart wsX3_reckonPart rmX3_reckonPart (va_Pc [.ref (aF 0), .int v1, .ref qu] (PreW D k ((wF k aF Fkinds Flefts Frights Fplaces Fvalues Fslopes Fexponents Fsize Froot) ++ ([(qu, .inl (k 0, 6, .inl uA))])) sz)) (va_Ql (fun r9 (_ : Unit) => r9 = r) (fun _ t => PostW D k (va_A ((wF k aF Fkinds Flefts Frights Fplaces Fvalues Fslopes Fexponents Fsize Froot) ++ ([(qu, .inl (k 0, 6, .inl uA))])) sz) ((wF k aF Fkinds Flefts Frights Fplaces Fvalues Fslopes Fexponents Fsize Froot) ++ ([(qu, .inl (k 0, 6, .inl uA))])) t) (va_A ((wF k aF Fkinds Flefts Frights Fplaces Fvalues Fslopes Fexponents Fsize Froot) ++ ([(qu, .inl (k 0, 6, .inl uA))])) sz)) 0 0 (va_A ((wF k aF Fkinds Flefts Frights Fplaces Fvalues Fslopes Fexponents Fsize Froot) ++ ([(qu, .inl (k 0, 6, .inl uA))])) sz) := by
  refine Met.ofW (cc := cX3_reckonPart) (maxL := 5) (ret := (some .long)) (by decide) rfl ?_
  intro p e s m args below meth c s₁ B hml hv
  obtain ⟨hav, hsz, hP, hK, hD0⟩ := hv
  have hx := B.exec
  have hb := B.bytes
  have hr := B.returns
  have hts := atoms_spec (ws := wsX3_reckonPart) B.pre
  have hown : s.vm.findClass RX3 = some m.cls := findClass_of_methodNamed B.named
  have hlocks := B.notSynchronized
  subst hsz
  have hD := hD0.self (sz := s.heap.size)
  clear hD0
  generalize hAe : va_A ((wF k aF Fkinds Flefts Frights Fplaces Fvalues Fslopes Fexponents Fsize Froot) ++ ([(qu, .inl (k 0, 6, .inl uA))])) s.heap.size = A at hD ⊢
  have hA : ∀ q : Nat, s.heap.size ≤ q → A q := fun q h => by rw [← hAe]; exact Or.inr h
  have hS : va_S A s.heap s.heap [] := va_S.rf
  have hl := lv_entry ([.ref (aF 0), .int v1, .ref qu]) (n := 5) (Nat.le_of_ble_eq_true rfl)
  rw [show entryFrame m args 5 = entryFrame m ([.ref (aF 0), .int v1, .ref qu] : List Value).toArray 5 from by rw [hav], lg_entry_eq]
  generalize (lg_sl ([.ref (aF 0), .int v1, .ref qu]) ++ List.replicate (5 - (lg_sl ([.ref (aF 0), .int v1, .ref qu])).length) Slot.unset).toArray = ls at hl ⊢
  replace hl : lv_has ls 5 [(0, .ref (aF 0)), (1, .int v1), (2, .ref qu)] := hl
  have f9 := hts (.fieldLink RX3 9 "UncertainBook$Formula" "kinds" "[I") (by decide +kernel)
  have f15 := hts (.fieldLink RX3 15 "UncertainBook$Formula" "lefts" "[I") (by decide +kernel)
  have f18 := hts (.fieldLink RX3 18 "UncertainBook$Formula" "rights" "[I") (by decide +kernel)
  have f24 := hts (.fieldLink RX3 24 "UncertainBook$Formula" "values" "[J") (by decide +kernel)
  have iX3 : ∀ w ∈ u_ws RX3 TX3 9, w ∈ wsX3_reckonPart := by decide +kernel
  refine w_q (fun Q hQ => ?_)
  unfold fX3_reckonPart at h
  show W p l e rmX3_reckonPart s m args below meth c s.heap [] 0 0 Q (F0 m 0 ls [])
  suffices main : ∀ (H : Heap) (locs : List Loc) (ls : Array Slot), va_P D vwCl ((wF k aF Fkinds Flefts Frights Fplaces Fvalues Fslopes Fexponents Fsize Froot) ++ ([(qu, .inl (k 0, 6, .inl uA))])) H → va_D A ((wF k aF Fkinds Flefts Frights Fplaces Fvalues Fslopes Fexponents Fsize Froot) ++ ([(qu, .inl (k 0, 6, .inl uA))])) → va_S A s.heap H locs → lv_has ls 5 [(0, .ref (aF 0)), (1, .int v1), (2, .ref qu)] → W p l e rmX3_reckonPart s m args below meth c H locs 0 0 Q (F0 m 0 ls []) from main _ _ _ hP hD hS hl
  clear hP hD hS hl ls hAe
  intro H locs ls hP hD hS hl
  refine lv_aload_n hx hb dX3_reckonPart_0 rfl (lv_at hl 0 rfl) ?_
  refine va_get (D := D) (ci := 3) (v := .ref (aF 2)) (C := RX3) (T := TX3) (N := 9) hx hb hts iX3 hown hK hP 0 rfl rfl 1 (by decide) f15 (fun _ h9 => h9) rfl dX3_reckonPart_1 ?_
  refine lv_iload_n hx hb dX3_reckonPart_4 rfl (lv_at hl 1 rfl) ?_
  obtain ⟨hi1, h⟩ := gi_inv h
  refine va_iald hx hb hK hP 2 0 rfl rfl hi1 dX3_reckonPart_5 ?_
  refine lv_istore_n (lv' := [(3, .int (Flefts v1.toNatClampNeg)), (0, .ref (aF 0)), (1, .int v1), (2, .ref qu)]) hx hb dX3_reckonPart_6 rfl hl (by decide) rfl (fun ls hl => ?_)
  refine lv_aload_n hx hb dX3_reckonPart_7 rfl (lv_at hl 1 rfl) ?_
  refine va_get (D := D) (ci := 3) (v := .ref (aF 3)) (C := RX3) (T := TX3) (N := 9) hx hb hts iX3 hown hK hP 0 rfl rfl 2 (by decide) f18 (fun _ h9 => h9) rfl dX3_reckonPart_8 ?_
  refine lv_iload_n hx hb dX3_reckonPart_11 rfl (lv_at hl 2 rfl) ?_
  obtain ⟨hi2, h⟩ := gi_inv h
  refine va_iald hx hb hK hP 3 0 rfl rfl hi2 dX3_reckonPart_12 ?_
  refine lv_istore (lv' := [(4, .int (Frights v1.toNatClampNeg)), (3, .int (Flefts v1.toNatClampNeg)), (0, .ref (aF 0)), (1, .int v1), (2, .ref qu)]) hx hb dX3_reckonPart_13 hl (by decide) rfl (fun ls hl => ?_)
  refine lv_aload_n hx hb dX3_reckonPart_15 rfl (lv_at hl 2 rfl) ?_
  refine va_get (D := D) (ci := 3) (v := .ref (aF 1)) (C := RX3) (T := TX3) (N := 9) hx hb hts iX3 hown hK hP 0 rfl rfl 0 (by decide) f9 (fun _ h9 => h9) rfl dX3_reckonPart_16 ?_
  refine lv_iload_n hx hb dX3_reckonPart_19 rfl (lv_at hl 3 rfl) ?_
  obtain ⟨hi3, h⟩ := gi_inv h
  refine va_iald hx hb hK hP 1 0 rfl rfl hi3 dX3_reckonPart_20 ?_
  rcases Decidable.em ((Fkinds v1.toNatClampNeg) = 0) with c4 | c4
  · replace h := sf_t c4 h
    refine lv_tableIn (off := 39) (tgt := 60) hx hb dX3_reckonPart_21 (by rw [c4]; decide) (by rw [c4]; decide) (by rw [c4]; rfl) (by decide) ?_
    refine lv_iload_n hx hb dX3_reckonPart_60 rfl (lv_at hl 1 rfl) ?_
    refine lv_i2l hx hb dX3_reckonPart_61 rfl ?_
    subst hQ
    cases h
    exact W.lret hx hb hr (fun t ht hW => ⟨⟨_, (), rfl, rfl, by rw [ht]; exact hP, va_K.moved hW.alike hK, hD⟩, hS.F ht⟩) hS.2.2 dX3_reckonPart_62
  replace h := sf_f c4 h
  rcases Decidable.em ((Fkinds v1.toNatClampNeg) = 1) with c5 | c5
  · replace h := sf_t c5 h
    refine lv_tableIn (off := 42) (tgt := 63) hx hb dX3_reckonPart_21 (by rw [c5]; decide) (by rw [c5]; decide) (by rw [c5]; rfl) (by decide) ?_
    refine lv_aload_n hx hb dX3_reckonPart_63 rfl (lv_at hl 4 rfl) ?_
    refine lv_iload_n hx hb dX3_reckonPart_64 rfl (lv_at hl 1 rfl) ?_
    obtain ⟨hi6, h⟩ := gi_inv h
    refine va_iald hx hb hK hP 8 0 rfl rfl hi6 dX3_reckonPart_65 ?_
    refine lv_i2l hx hb dX3_reckonPart_66 rfl ?_
    subst hQ
    cases h
    exact W.lret hx hb hr (fun t ht hW => ⟨⟨_, (), rfl, rfl, by rw [ht]; exact hP, va_K.moved hW.alike hK, hD⟩, hS.F ht⟩) hS.2.2 dX3_reckonPart_67
  replace h := sf_f c5 h
  rcases Decidable.em ((Fkinds v1.toNatClampNeg) = 2) with c7 | c7
  · replace h := sf_t c7 h
    refine lv_tableIn (off := 47) (tgt := 68) hx hb dX3_reckonPart_21 (by rw [c7]; decide) (by rw [c7]; decide) (by rw [c7]; rfl) (by decide) ?_
    refine lv_aload_n hx hb dX3_reckonPart_68 rfl (lv_at hl 2 rfl) ?_
    refine va_get (D := D) (ci := 3) (v := .ref (aF 5)) (C := RX3) (T := TX3) (N := 9) hx hb hts iX3 hown hK hP 0 rfl rfl 4 (by decide) f24 (fun _ h9 => h9) rfl dX3_reckonPart_69 ?_
    refine lv_iload_n hx hb dX3_reckonPart_72 rfl (lv_at hl 1 rfl) ?_
    obtain ⟨hi8, h⟩ := gi_inv h
    refine va_lald hx hb hK hP 5 1 rfl rfl hi8 dX3_reckonPart_73 ?_
    refine lv_lneg hx hb dX3_reckonPart_74 ?_
    subst hQ
    cases h
    exact W.lret hx hb hr (fun t ht hW => ⟨⟨_, (), rfl, rfl, by rw [ht]; exact hP, va_K.moved hW.alike hK, hD⟩, hS.F ht⟩) hS.2.2 dX3_reckonPart_75
  replace h := sf_f c7 h
  rcases Decidable.em ((Fkinds v1.toNatClampNeg) = 3) with c9 | c9
  · replace h := sf_t c9 h
    refine lv_tableIn (off := 55) (tgt := 76) hx hb dX3_reckonPart_21 (by rw [c9]; decide) (by rw [c9]; decide) (by rw [c9]; rfl) (by decide) ?_
    refine lv_aload_n hx hb dX3_reckonPart_76 rfl (lv_at hl 2 rfl) ?_
    refine va_get (D := D) (ci := 3) (v := .ref (aF 5)) (C := RX3) (T := TX3) (N := 9) hx hb hts iX3 hown hK hP 0 rfl rfl 4 (by decide) f24 (fun _ h9 => h9) rfl dX3_reckonPart_77 ?_
    refine lv_iload_n hx hb dX3_reckonPart_80 rfl (lv_at hl 1 rfl) ?_
    obtain ⟨hi10, h⟩ := gi_inv h
    refine va_lald hx hb hK hP 5 1 rfl rfl hi10 dX3_reckonPart_81 ?_
    refine lv_aload_n hx hb dX3_reckonPart_82 rfl (lv_at hl 2 rfl) ?_
    refine va_get (D := D) (ci := 3) (v := .ref (aF 5)) (C := RX3) (T := TX3) (N := 9) hx hb hts iX3 hown hK hP 0 rfl rfl 4 (by decide) f24 (fun _ h9 => h9) rfl dX3_reckonPart_83 ?_
    refine lv_iload hx hb dX3_reckonPart_86 (lv_at hl 0 rfl) ?_
    obtain ⟨hi11, h⟩ := gi_inv h
    refine va_lald hx hb hK hP 5 1 rfl rfl hi11 dX3_reckonPart_88 ?_
    refine lv_ladd hx hb dX3_reckonPart_89 ?_
    subst hQ
    cases h
    exact W.lret hx hb hr (fun t ht hW => ⟨⟨_, (), rfl, rfl, by rw [ht]; exact hP, va_K.moved hW.alike hK, hD⟩, hS.F ht⟩) hS.2.2 dX3_reckonPart_90
  replace h := sf_f c9 h
  rcases Decidable.em ((Fkinds v1.toNatClampNeg) = 4) with c12 | c12
  · replace h := sf_t c12 h
    refine lv_tableIn (off := 70) (tgt := 91) hx hb dX3_reckonPart_21 (by rw [c12]; decide) (by rw [c12]; decide) (by rw [c12]; rfl) (by decide) ?_
    refine lv_aload_n hx hb dX3_reckonPart_91 rfl (lv_at hl 2 rfl) ?_
    refine va_get (D := D) (ci := 3) (v := .ref (aF 5)) (C := RX3) (T := TX3) (N := 9) hx hb hts iX3 hown hK hP 0 rfl rfl 4 (by decide) f24 (fun _ h9 => h9) rfl dX3_reckonPart_92 ?_
    refine lv_iload_n hx hb dX3_reckonPart_95 rfl (lv_at hl 1 rfl) ?_
    obtain ⟨hi13, h⟩ := gi_inv h
    refine va_lald hx hb hK hP 5 1 rfl rfl hi13 dX3_reckonPart_96 ?_
    refine lv_aload_n hx hb dX3_reckonPart_97 rfl (lv_at hl 2 rfl) ?_
    refine va_get (D := D) (ci := 3) (v := .ref (aF 5)) (C := RX3) (T := TX3) (N := 9) hx hb hts iX3 hown hK hP 0 rfl rfl 4 (by decide) f24 (fun _ h9 => h9) rfl dX3_reckonPart_98 ?_
    refine lv_iload hx hb dX3_reckonPart_101 (lv_at hl 0 rfl) ?_
    obtain ⟨hi14, h⟩ := gi_inv h
    refine va_lald hx hb hK hP 5 1 rfl rfl hi14 dX3_reckonPart_103 ?_
    refine lv_lsub hx hb dX3_reckonPart_104 ?_
    subst hQ
    cases h
    exact W.lret hx hb hr (fun t ht hW => ⟨⟨_, (), rfl, rfl, by rw [ht]; exact hP, va_K.moved hW.alike hK, hD⟩, hS.F ht⟩) hS.2.2 dX3_reckonPart_105
  replace h := sf_f c12 h
  rcases Decidable.em ((Fkinds v1.toNatClampNeg) = 5) with c15 | c15
  · replace h := sf_t c15 h
    refine lv_tableIn (off := 85) (tgt := 106) hx hb dX3_reckonPart_21 (by rw [c15]; decide) (by rw [c15]; decide) (by rw [c15]; rfl) (by decide) ?_
    refine lv_aload_n hx hb dX3_reckonPart_106 rfl (lv_at hl 2 rfl) ?_
    refine va_get (D := D) (ci := 3) (v := .ref (aF 5)) (C := RX3) (T := TX3) (N := 9) hx hb hts iX3 hown hK hP 0 rfl rfl 4 (by decide) f24 (fun _ h9 => h9) rfl dX3_reckonPart_107 ?_
    refine lv_iload_n hx hb dX3_reckonPart_110 rfl (lv_at hl 1 rfl) ?_
    obtain ⟨hi16, h⟩ := gi_inv h
    refine va_lald hx hb hK hP 5 1 rfl rfl hi16 dX3_reckonPart_111 ?_
    refine lv_aload_n hx hb dX3_reckonPart_112 rfl (lv_at hl 2 rfl) ?_
    refine va_get (D := D) (ci := 3) (v := .ref (aF 5)) (C := RX3) (T := TX3) (N := 9) hx hb hts iX3 hown hK hP 0 rfl rfl 4 (by decide) f24 (fun _ h9 => h9) rfl dX3_reckonPart_113 ?_
    refine lv_iload hx hb dX3_reckonPart_116 (lv_at hl 0 rfl) ?_
    obtain ⟨hi17, h⟩ := gi_inv h
    refine va_lald hx hb hK hP 5 1 rfl rfl hi17 dX3_reckonPart_118 ?_
    refine lv_lmul hx hb dX3_reckonPart_119 ?_
    subst hQ
    cases h
    exact W.lret hx hb hr (fun t ht hW => ⟨⟨_, (), rfl, rfl, by rw [ht]; exact hP, va_K.moved hW.alike hK, hD⟩, hS.F ht⟩) hS.2.2 dX3_reckonPart_120
  replace h := sf_f c15 h
  refine lv_tableOut (tgt := 121) hx hb dX3_reckonPart_21 (by have z0 := lv_neT (a := 0) c4 rfl; have z1 := lv_neT (a := 1) c5 rfl; have z2 := lv_neT (a := 2) c7 rfl; have z3 := lv_neT (a := 3) c9 rfl; have z4 := lv_neT (a := 4) c12 rfl; have z5 := lv_neT (a := 5) c15 rfl; omega) (by decide) ?_
  refine lv_aload_n hx hb dX3_reckonPart_121 rfl (lv_at hl 2 rfl) ?_
  refine va_get (D := D) (ci := 3) (v := .ref (aF 5)) (C := RX3) (T := TX3) (N := 9) hx hb hts iX3 hown hK hP 0 rfl rfl 4 (by decide) f24 (fun _ h9 => h9) rfl dX3_reckonPart_122 ?_
  refine lv_iload_n hx hb dX3_reckonPart_125 rfl (lv_at hl 1 rfl) ?_
  obtain ⟨hi18, h⟩ := gi_inv h
  refine va_lald hx hb hK hP 5 1 rfl rfl hi18 dX3_reckonPart_126 ?_
  refine lv_iload hx hb dX3_reckonPart_127 (lv_at hl 0 rfl) ?_
  obtain ⟨r19, hc19, h⟩ := bnd1_inv h
  have hPc := hP.sub (ws' := ([] : va_W)) [] rfl
  have hDc := hD.sub (ws' := ([] : va_W)) [] rfl rfl
  have hFc := va_free (wc := ([] : va_W)) hD hS hA [] rfl
  refine xc_l (va_runS (As := [.long (Fvalues (Flefts v1.toNatClampNeg).toNatClampNeg), .int (Frights v1.toNatClampNeg)]) (rest := []) ⟨hx, hb, hml, hown, hts⟩ (met_X3_power l D k H.size (Fvalues (Flefts v1.toNatClampNeg).toNatClampNeg) (Frights v1.toNatClampNeg) r19 hc19) (va_cwS 2 hts gX3_reckonPart_X3_power rfl rfl rfl (by decide +kernel) ⟨Nat.le_of_ble_eq_true rfl, Nat.le_of_ble_eq_true rfl⟩) ⟨pw_blind, pw_start hPc hK hDc⟩ rfl rfl hl.1 rfl (lv_room (Nat.le_of_ble_eq_true rfl)) dX3_reckonPart_129 ⟨Nat.zero_le _, Nat.zero_le _⟩) hS hFc (fun H1 locs hP1 hD1 hk1 hS => ?_)
  obtain ⟨hP, hD⟩ := vj (ws' := ((wF k aF Fkinds Flefts Frights Fplaces Fvalues Fslopes Fexponents Fsize Froot) ++ ([(qu, .inl (k 0, 6, .inl uA))]))) (w1 := ([] : va_W)) hP hD [] [0, 1, 2, 3, 4, 5, 6, 7, 8] [0, 1, 2, 3, 4, 5, 6, 7, 8] rfl rfl rfl rfl rfl hk1 hFc hP1 hD1
  clear hP1 hD1 hk1 hFc
  generalize H1 = H at hP hS ⊢
  subst hQ
  cases h
  exact W.lret hx hb hr (fun t ht hW => ⟨⟨_, (), rfl, rfl, by rw [ht]; exact hP, va_K.moved hW.alike hK, hD⟩, hS.F ht⟩) hS.2.2 dX3_reckonPart_132
def LX3_reckonBy_2 (Fkinds : Nat → Int32) (Flefts : Nat → Int32) (Frights : Nat → Int32) (Fsize : Int32) (Froot : Int32) (uA : Nat → Int32) (E28 : (Nat → Int64) → Option (Int64 × (Nat → Int64))) : Nat → Int32 → (Nat → Int64) → Option (Int64 × (Nat → Int64))
  | 0, _, _ => none
  | fuel + 1, v2, Fvalues => (if Fsize ≤ v2 then E28 Fvalues else bnd1 (fX3_reckonPart v2 Fkinds Flefts Frights Fvalues uA) (fun r2 => gi v2 60 (LX3_reckonBy_2 Fkinds Flefts Frights Fsize Froot uA E28 fuel (v2 + 1) (vp_updL Fvalues (v2.toNatClampNeg) r2))))
def fX3_reckonBy (Fkinds : Nat → Int32) (Flefts : Nat → Int32) (Frights : Nat → Int32) (Fvalues : Nat → Int64) (Fsize : Int32) (Froot : Int32) (uA : Nat → Int32) : Option (Int64 × (Nat → Int64)) := LX3_reckonBy_2 Fkinds Flefts Frights Fsize Froot uA (fun (Fvalues : Nat → Int64) => gi Froot 60 (some (Fvalues Froot.toNatClampNeg, Fvalues))) 1000 0 Fvalues
abbrev rmX3_reckonBy : Room := { frames := 2, cells := 0, slots := 0, locals := 49 }
set_option maxHeartbeats 4000000 in
set_option maxRecDepth 100000 in
theorem met_X3_reckonBy (l : Launch) (D : va_G) (k : Nat → ClassId) (aF : Nat → Nat) (qu : Nat) (sz : Nat) (Fkinds : Nat → Int32) (Flefts : Nat → Int32) (Frights : Nat → Int32) (Fplaces : Nat → Int32) (Fvalues : Nat → Int64) (Fslopes : Nat → Int64) (Fexponents : Nat → Int32) (Fsize : Int32) (Froot : Int32) (uA : Nat → Int32)  (r : Int64) (RFvalues : Nat → Int64) (h : fX3_reckonBy Fkinds Flefts Frights Fvalues Fsize Froot uA = some (r, RFvalues)) : Met l yX3_reckonBy wsX3_reckonBy rmX3_reckonBy (va_Pc [.ref (aF 0), .ref qu] (PreW D k ((wF k aF Fkinds Flefts Frights Fplaces Fvalues Fslopes Fexponents Fsize Froot) ++ ([(qu, .inl (k 0, 6, .inl uA))])) sz)) (va_Ql (fun r9 (_ : Unit) => r9 = r) (fun _ t => PostW D k (va_A ((wF k aF Fkinds Flefts Frights Fplaces Fvalues Fslopes Fexponents Fsize Froot) ++ ([(qu, .inl (k 0, 6, .inl uA))])) sz) ((wF k aF Fkinds Flefts Frights Fplaces RFvalues Fslopes Fexponents Fsize Froot) ++ ([(qu, .inl (k 0, 6, .inl uA))])) t) (va_A ((wF k aF Fkinds Flefts Frights Fplaces Fvalues Fslopes Fexponents Fsize Froot) ++ ([(qu, .inl (k 0, 6, .inl uA))])) sz)) 0 0 (va_A ((wF k aF Fkinds Flefts Frights Fplaces Fvalues Fslopes Fexponents Fsize Froot) ++ ([(qu, .inl (k 0, 6, .inl uA))])) sz) := by
  refine Met.ofW (cc := cX3_reckonBy) (maxL := 3) (ret := (some .long)) (by decide) rfl ?_
  intro p e s m args below meth c s₁ B hml hv
  obtain ⟨hav, hsz, hP, hK, hD0⟩ := hv
  have hx := B.exec
  have hb := B.bytes
  have hr := B.returns
  have hts := atoms_spec (ws := wsX3_reckonBy) B.pre
  have hown : s.vm.findClass RX3 = some m.cls := findClass_of_methodNamed B.named
  have hlocks := B.notSynchronized
  subst hsz
  have hD := hD0.self (sz := s.heap.size)
  clear hD0
  generalize hAe : va_A ((wF k aF Fkinds Flefts Frights Fplaces Fvalues Fslopes Fexponents Fsize Froot) ++ ([(qu, .inl (k 0, 6, .inl uA))])) s.heap.size = A at hD ⊢
  have hA : ∀ q : Nat, s.heap.size ≤ q → A q := fun q h => by rw [← hAe]; exact Or.inr h
  have hS : va_S A s.heap s.heap [] := va_S.rf
  have hl := lv_entry ([.ref (aF 0), .ref qu]) (n := 3) (Nat.le_of_ble_eq_true rfl)
  rw [show entryFrame m args 3 = entryFrame m ([.ref (aF 0), .ref qu] : List Value).toArray 3 from by rw [hav], lg_entry_eq]
  generalize (lg_sl ([.ref (aF 0), .ref qu]) ++ List.replicate (3 - (lg_sl ([.ref (aF 0), .ref qu])).length) Slot.unset).toArray = ls at hl ⊢
  replace hl : lv_has ls 3 [(0, .ref (aF 0)), (1, .ref qu)] := hl
  have f24 := hts (.fieldLink RX3 24 "UncertainBook$Formula" "values" "[J") (by decide +kernel)
  have f34 := hts (.fieldLink RX3 34 "UncertainBook$Formula" "size" "I") (by decide +kernel)
  have f38 := hts (.fieldLink RX3 38 "UncertainBook$Formula" "root" "I") (by decide +kernel)
  have iX3 : ∀ w ∈ u_ws RX3 TX3 9, w ∈ wsX3_reckonBy := by decide +kernel
  refine w_q (fun Q hQ => ?_)
  unfold fX3_reckonBy at h
  show W p l e rmX3_reckonBy s m args below meth c s.heap [] 0 0 Q (F0 m 0 ls [])
  have LH_2 : ∀ (E28 : (Nat → Int64) → Option (Int64 × (Nat → Int64))) (hE28 : ∀ (Fvalues : Nat → Int64), E28 Fvalues = some (r, RFvalues) → ∀ (H : Heap) (locs : List Loc) (ls : Array Slot), va_P D vwCl ((wF k aF Fkinds Flefts Frights Fplaces Fvalues Fslopes Fexponents Fsize Froot) ++ ([(qu, .inl (k 0, 6, .inl uA))])) H → va_D A ((wF k aF Fkinds Flefts Frights Fplaces Fvalues Fslopes Fexponents Fsize Froot) ++ ([(qu, .inl (k 0, 6, .inl uA))])) → va_S A s.heap H locs → lv_has ls 3 [(0, .ref (aF 0))] → W p l e rmX3_reckonBy s m args below meth c H locs 0 0 Q (F0 m 28 ls [])) (n : Nat) (v2 : Int32) (Fvalues : Nat → Int64), LX3_reckonBy_2 Fkinds Flefts Frights Fsize Froot uA E28 n v2 Fvalues = some (r, RFvalues) → ∀ (H : Heap) (locs : List Loc) (ls : Array Slot), va_P D vwCl ((wF k aF Fkinds Flefts Frights Fplaces Fvalues Fslopes Fexponents Fsize Froot) ++ ([(qu, .inl (k 0, 6, .inl uA))])) H → va_D A ((wF k aF Fkinds Flefts Frights Fplaces Fvalues Fslopes Fexponents Fsize Froot) ++ ([(qu, .inl (k 0, 6, .inl uA))])) → va_S A s.heap H locs → lv_has ls 3 [(0, .ref (aF 0)), (1, .ref qu), (2, .int v2)] → W p l e rmX3_reckonBy s m args below meth c H locs 0 0 Q (F0 m 2 ls []) := by
    intro E28 hE28 n
    induction n with
    | zero => intro v2 Fvalues h; simp [LX3_reckonBy_2] at h
    | succ n ih =>
    intro v2 Fvalues h H locs ls hP hD hS hl
    rw [LX3_reckonBy_2] at h
    refine lv_iload_n hx hb dX3_reckonBy_2 rfl (lv_at hl 2 rfl) ?_
    refine lv_aload_n hx hb dX3_reckonBy_3 rfl (lv_at hl 0 rfl) ?_
    refine va_get (D := D) (ci := 3) (v := .int Fsize) (C := RX3) (T := TX3) (N := 9) hx hb hts iX3 hown hK hP 0 rfl rfl 7 (by decide) f34 (fun _ h9 => h9) rfl dX3_reckonBy_4 ?_
    refine lv_icmp_ge (tgt := 28) hx hb dX3_reckonBy_7 (by decide) (fun c1 => ?_) (fun c1 => ?_)
    · replace h := sf_t c1 h
      exact hE28 _ h _ _ _ hP hD hS (lv_sub hl [0] rfl)
    · replace h := sf_f c1 h
      refine lv_aload_n hx hb dX3_reckonBy_10 rfl (lv_at hl 0 rfl) ?_
      refine va_get (D := D) (ci := 3) (v := .ref (aF 5)) (C := RX3) (T := TX3) (N := 9) hx hb hts iX3 hown hK hP 0 rfl rfl 4 (by decide) f24 (fun _ h9 => h9) rfl dX3_reckonBy_11 ?_
      refine lv_iload_n hx hb dX3_reckonBy_14 rfl (lv_at hl 2 rfl) ?_
      refine lv_aload_n hx hb dX3_reckonBy_15 rfl (lv_at hl 0 rfl) ?_
      refine lv_iload_n hx hb dX3_reckonBy_16 rfl (lv_at hl 2 rfl) ?_
      refine lv_aload_n hx hb dX3_reckonBy_17 rfl (lv_at hl 1 rfl) ?_
      obtain ⟨r2, hc2, h⟩ := bnd1_inv h
      have hFc := va_free (wc := ((wF k aF Fkinds Flefts Frights Fplaces Fvalues Fslopes Fexponents Fsize Froot) ++ ([(qu, .inl (k 0, 6, .inl uA))]))) hD hS hA [0, 1, 2, 3, 4, 5, 6, 7, 8] rfl
      refine xc_l (va_runV (As := [.int v2, .ref qu]) (rest := [.int v2, .ref (aF 5)]) ⟨hx, hb, hml, hown, hts⟩ (met_X3_reckonPart l D k aF qu H.size Fkinds Flefts Frights Fplaces Fvalues Fslopes Fexponents Fsize Froot uA v2 r2 hc2) (cwV 2 hts gX3_reckonBy_X3_reckonPart rfl rfl rfl (by decide +kernel) ⟨Nat.le_of_ble_eq_true rfl, Nat.le_of_ble_eq_true rfl⟩) ⟨pw_blind, va_recv hK hP (ci := 3) (q0 := 0) rfl rfl, pw_start hP hK hD⟩ rfl rfl hl.1 rfl (lv_room (Nat.le_of_ble_eq_true rfl)) dX3_reckonBy_18 ⟨Nat.zero_le _, Nat.zero_le _⟩) hS hFc (fun H1 locs hP1 hD1 hk1 hS => ?_)
      obtain ⟨hP, hD⟩ := vj_all hFc hP1 hD1
      clear hP1 hD1 hk1 hFc
      generalize H1 = H at hP hS ⊢
      obtain ⟨hi3, h⟩ := gi_inv h
      refine va_last hx hb hK hP hD hS 5 1 rfl rfl hi3 dX3_reckonBy_21 (fun H locs hP hD hS => ?_)
      replace hP : va_P D vwCl ((wF k aF Fkinds Flefts Frights Fplaces (vp_updL Fvalues (v2.toNatClampNeg) r2) Fslopes Fexponents Fsize Froot) ++ ([(qu, .inl (k 0, 6, .inl uA))])) H := hP
      replace hD : va_D A ((wF k aF Fkinds Flefts Frights Fplaces (vp_updL Fvalues (v2.toNatClampNeg) r2) Fslopes Fexponents Fsize Froot) ++ ([(qu, .inl (k 0, 6, .inl uA))])) := hD
      refine lv_iinc (v := v2 + 1) (lv' := [(2, .int (v2 + 1)), (0, .ref (aF 0)), (1, .ref qu)]) hx hb dX3_reckonBy_22 hl (k := 2) rfl rfl (by decide) rfl (fun ls hl => ?_)
      refine lv_goto (tgt := 2) hx hb dX3_reckonBy_25 (by decide) ?_
      exact ih _ _ h _ _ _ hP hD hS (lv_sub hl [1, 2, 0] rfl)
  suffices main : ∀ (H : Heap) (locs : List Loc) (ls : Array Slot), va_P D vwCl ((wF k aF Fkinds Flefts Frights Fplaces Fvalues Fslopes Fexponents Fsize Froot) ++ ([(qu, .inl (k 0, 6, .inl uA))])) H → va_D A ((wF k aF Fkinds Flefts Frights Fplaces Fvalues Fslopes Fexponents Fsize Froot) ++ ([(qu, .inl (k 0, 6, .inl uA))])) → va_S A s.heap H locs → lv_has ls 3 [(0, .ref (aF 0)), (1, .ref qu)] → W p l e rmX3_reckonBy s m args below meth c H locs 0 0 Q (F0 m 0 ls []) from main _ _ _ hP hD hS hl
  clear hP hD hS hl ls hAe
  intro H locs ls hP hD hS hl
  refine lv_iconst (v := 0) hx hb dX3_reckonBy_0 (by decide) ?_
  refine lv_istore_n (lv' := [(2, .int 0), (0, .ref (aF 0)), (1, .ref qu)]) hx hb dX3_reckonBy_1 rfl hl (by decide) rfl (fun ls hl => ?_)
  refine LH_2 _ (fun Fvalues h H locs ls hP hD hS hl => ?_) _ _ _ h _ _ _ hP hD hS (lv_sub hl [1, 2, 0] rfl)
  · skip
    refine lv_aload_n hx hb dX3_reckonBy_28 rfl (lv_at hl 0 rfl) ?_
    refine va_get (D := D) (ci := 3) (v := .ref (aF 5)) (C := RX3) (T := TX3) (N := 9) hx hb hts iX3 hown hK hP 0 rfl rfl 4 (by decide) f24 (fun _ h9 => h9) rfl dX3_reckonBy_29 ?_
    refine lv_aload_n hx hb dX3_reckonBy_32 rfl (lv_at hl 0 rfl) ?_
    refine va_get (D := D) (ci := 3) (v := .int Froot) (C := RX3) (T := TX3) (N := 9) hx hb hts iX3 hown hK hP 0 rfl rfl 8 (by decide) f38 (fun _ h9 => h9) rfl dX3_reckonBy_33 ?_
    obtain ⟨hi4, h⟩ := gi_inv h
    refine va_lald hx hb hK hP 5 1 rfl rfl hi4 dX3_reckonBy_36 ?_
    subst hQ
    cases h
    exact W.lret hx hb hr (fun t ht hW => ⟨⟨_, (), rfl, rfl, by rw [ht]; exact hP, va_K.moved hW.alike hK, hD⟩, hS.F ht⟩) hS.2.2 dX3_reckonBy_37
def fX4_shapeVariance (v0 : Int32) (v1 : Int32) : Option (Int32) := (if v0 = 1 then some (v1 / 3) else if v0 = 2 then some (v1 / 6) else if v0 = 3 then some (v1 / 2) else some (0))
abbrev rmX4_shapeVariance : Room := { frames := 0, cells := 0, slots := 0, locals := 0 }
set_option maxHeartbeats 4000000 in
set_option maxRecDepth 100000 in
theorem met_X4_shapeVariance (l : Launch) (D : va_G) (k : Nat → ClassId)  (sz : Nat)  (v0 : Int32) (v1 : Int32) (r : Int32) (h : fX4_shapeVariance v0 v1 = some r) : Met l yX4_shapeVariance wsX4_shapeVariance rmX4_shapeVariance (va_Pc [.int v0, .int v1] (PreW D k ([] : va_W) sz)) (va_Qi (fun r9 (_ : Unit) => r9 = r) (fun _ t => PostW D k (va_A ([] : va_W) sz) ([] : va_W) t) (va_A ([] : va_W) sz)) 0 0 (va_A ([] : va_W) sz) := by
  refine Met.ofW (cc := cX4_shapeVariance) (maxL := 2) (ret := (some .int)) (by decide) rfl ?_
  intro p e s m args below meth c s₁ B hml hv
  obtain ⟨hav, hsz, hP, hK, hD0⟩ := hv
  have hx := B.exec
  have hb := B.bytes
  have hr := B.returns
  have hts := atoms_spec (ws := wsX4_shapeVariance) B.pre
  have hown : s.vm.findClass RX4 = some m.cls := findClass_of_methodNamed B.named
  have hlocks := B.notSynchronized
  subst hsz
  have hD := hD0.self (sz := s.heap.size)
  clear hD0
  generalize hAe : va_A ([] : va_W) s.heap.size = A at hD ⊢
  have hA : ∀ q : Nat, s.heap.size ≤ q → A q := fun q h => by rw [← hAe]; exact Or.inr h
  have hS : va_S A s.heap s.heap [] := va_S.rf
  have hl := lv_entry ([.int v0, .int v1]) (n := 2) (Nat.le_of_ble_eq_true rfl)
  rw [show entryFrame m args 2 = entryFrame m ([.int v0, .int v1] : List Value).toArray 2 from by rw [hav], lg_entry_eq]
  generalize (lg_sl ([.int v0, .int v1]) ++ List.replicate (2 - (lg_sl ([.int v0, .int v1])).length) Slot.unset).toArray = ls at hl ⊢
  replace hl : lv_has ls 2 [(0, .int v0), (1, .int v1)] := hl
  refine w_q (fun Q hQ => ?_)
  unfold fX4_shapeVariance at h
  show W p l e rmX4_shapeVariance s m args below meth c s.heap [] 0 0 Q (F0 m 0 ls [])
  suffices main : ∀ (H : Heap) (locs : List Loc) (ls : Array Slot), va_P D vwCl ([] : va_W) H → va_D A ([] : va_W) → va_S A s.heap H locs → lv_has ls 2 [(0, .int v0), (1, .int v1)] → W p l e rmX4_shapeVariance s m args below meth c H locs 0 0 Q (F0 m 0 ls []) from main _ _ _ hP hD hS hl
  clear hP hD hS hl ls hAe
  intro H locs ls hP hD hS hl
  refine lv_iload_n hx hb dX4_shapeVariance_0 rfl (lv_at hl 0 rfl) ?_
  rcases Decidable.em (v0 = 1) with c1 | c1
  · replace h := sf_t c1 h
    refine lv_tableIn (off := 27) (tgt := 28) hx hb dX4_shapeVariance_1 (by rw [c1]; decide) (by rw [c1]; decide) (by rw [c1]; rfl) (by decide) ?_
    refine lv_iload_n hx hb dX4_shapeVariance_28 rfl (lv_at hl 1 rfl) ?_
    refine lv_iconst (v := 3) hx hb dX4_shapeVariance_29 (by decide) ?_
    refine lv_idiv hx hb dX4_shapeVariance_30 (by decide) ?_
    subst hQ
    cases h
    exact W.iret hx hb hr (fun t ht hW => ⟨⟨_, (), rfl, rfl, by rw [ht]; exact hP, va_K.moved hW.alike hK, hD⟩, hS.F ht⟩) hS.2.2 dX4_shapeVariance_31
  replace h := sf_f c1 h
  rcases Decidable.em (v0 = 2) with c2 | c2
  · replace h := sf_t c2 h
    refine lv_tableIn (off := 31) (tgt := 32) hx hb dX4_shapeVariance_1 (by rw [c2]; decide) (by rw [c2]; decide) (by rw [c2]; rfl) (by decide) ?_
    refine lv_iload_n hx hb dX4_shapeVariance_32 rfl (lv_at hl 1 rfl) ?_
    refine lv_bipush (v := 6) hx hb dX4_shapeVariance_33 (by decide) ?_
    refine lv_idiv hx hb dX4_shapeVariance_35 (by decide) ?_
    subst hQ
    cases h
    exact W.iret hx hb hr (fun t ht hW => ⟨⟨_, (), rfl, rfl, by rw [ht]; exact hP, va_K.moved hW.alike hK, hD⟩, hS.F ht⟩) hS.2.2 dX4_shapeVariance_36
  replace h := sf_f c2 h
  rcases Decidable.em (v0 = 3) with c3 | c3
  · replace h := sf_t c3 h
    refine lv_tableIn (off := 36) (tgt := 37) hx hb dX4_shapeVariance_1 (by rw [c3]; decide) (by rw [c3]; decide) (by rw [c3]; rfl) (by decide) ?_
    refine lv_iload_n hx hb dX4_shapeVariance_37 rfl (lv_at hl 1 rfl) ?_
    refine lv_iconst (v := 2) hx hb dX4_shapeVariance_38 (by decide) ?_
    refine lv_idiv hx hb dX4_shapeVariance_39 (by decide) ?_
    subst hQ
    cases h
    exact W.iret hx hb hr (fun t ht hW => ⟨⟨_, (), rfl, rfl, by rw [ht]; exact hP, va_K.moved hW.alike hK, hD⟩, hS.F ht⟩) hS.2.2 dX4_shapeVariance_40
  replace h := sf_f c3 h
  refine lv_tableOut (tgt := 41) hx hb dX4_shapeVariance_1 (by have z0 := lv_neT (a := 1) c1 rfl; have z1 := lv_neT (a := 2) c2 rfl; have z2 := lv_neT (a := 3) c3 rfl; omega) (by decide) ?_
  refine lv_iconst (v := 0) hx hb dX4_shapeVariance_41 (by decide) ?_
  subst hQ
  cases h
  exact W.iret hx hb hr (fun t ht hW => ⟨⟨_, (), rfl, rfl, by rw [ht]; exact hP, va_K.moved hW.alike hK, hD⟩, hS.F ht⟩) hS.2.2 dX4_shapeVariance_42
def LX2_find_2 (Vdegrees : Nat → Int32) (Vcount : Int32) (v1 : Int32) (E26 : Int32 → Option (Int32)) : Nat → Int32 → Option (Int32)
  | 0, _ => none
  | fuel + 1, v2 => (if Vcount ≤ v2 then E26 v2 else gi v2 12 ((if (Vdegrees v2.toNatClampNeg) = v1 then E26 v2 else LX2_find_2 Vdegrees Vcount v1 E26 fuel (v2 + 1))))
def fX2_find (v1 : Int32) (Vdegrees : Nat → Int32) (Vcount : Int32) : Option (Int32) := LX2_find_2 Vdegrees Vcount v1 (fun (v2 : Int32) => some (v2)) 1000 0
abbrev rmX2_find : Room := { frames := 0, cells := 0, slots := 0, locals := 0 }
set_option maxHeartbeats 4000000 in
set_option maxRecDepth 100000 in
theorem met_X2_find (l : Launch) (D : va_G) (k : Nat → ClassId) (aV : Nat → Nat) (sz : Nat) (Vdegrees : Nat → Int32) (Vfactors : Nat → Int32) (Vcount : Int32) (v1 : Int32) (r : Int32) (h : fX2_find v1 Vdegrees Vcount = some r) : Met l yX2_find wsX2_find rmX2_find (va_Pc [.ref (aV 0), .int v1] (PreW D k (wV k aV Vdegrees Vfactors Vcount) sz)) (va_Qi (fun r9 (_ : Unit) => r9 = r) (fun _ t => PostW D k (va_A (wV k aV Vdegrees Vfactors Vcount) sz) (wV k aV Vdegrees Vfactors Vcount) t) (va_A (wV k aV Vdegrees Vfactors Vcount) sz)) 0 0 (va_A (wV k aV Vdegrees Vfactors Vcount) sz) := by
  refine Met.ofW (cc := cX2_find) (maxL := 3) (ret := (some .int)) (by decide) rfl ?_
  intro p e s m args below meth c s₁ B hml hv
  obtain ⟨hav, hsz, hP, hK, hD0⟩ := hv
  have hx := B.exec
  have hb := B.bytes
  have hr := B.returns
  have hts := atoms_spec (ws := wsX2_find) B.pre
  have hown : s.vm.findClass RX2 = some m.cls := findClass_of_methodNamed B.named
  have hlocks := B.notSynchronized
  subst hsz
  have hD := hD0.self (sz := s.heap.size)
  clear hD0
  generalize hAe : va_A (wV k aV Vdegrees Vfactors Vcount) s.heap.size = A at hD ⊢
  have hA : ∀ q : Nat, s.heap.size ≤ q → A q := fun q h => by rw [← hAe]; exact Or.inr h
  have hS : va_S A s.heap s.heap [] := va_S.rf
  have hl := lv_entry ([.ref (aV 0), .int v1]) (n := 3) (Nat.le_of_ble_eq_true rfl)
  rw [show entryFrame m args 3 = entryFrame m ([.ref (aV 0), .int v1] : List Value).toArray 3 from by rw [hav], lg_entry_eq]
  generalize (lg_sl ([.ref (aV 0), .int v1]) ++ List.replicate (3 - (lg_sl ([.ref (aV 0), .int v1])).length) Slot.unset).toArray = ls at hl ⊢
  replace hl : lv_has ls 3 [(0, .ref (aV 0)), (1, .int v1)] := hl
  have f9 := hts (.fieldLink RX2 9 "UncertainBook$Coverage" "degrees" "[I") (by decide +kernel)
  have f18 := hts (.fieldLink RX2 18 "UncertainBook$Coverage" "count" "I") (by decide +kernel)
  have iX2 : ∀ w ∈ u_ws RX2 TX2 3, w ∈ wsX2_find := by decide +kernel
  refine w_q (fun Q hQ => ?_)
  unfold fX2_find at h
  show W p l e rmX2_find s m args below meth c s.heap [] 0 0 Q (F0 m 0 ls [])
  have LH_2 : ∀ (E26 : Int32 → Option (Int32)) (hE26 : ∀ (v2 : Int32), E26 v2 = some r → ∀ (H : Heap) (locs : List Loc) (ls : Array Slot), va_P D vwCl (wV k aV Vdegrees Vfactors Vcount) H → va_D A (wV k aV Vdegrees Vfactors Vcount) → va_S A s.heap H locs → lv_has ls 3 [(2, .int v2)] → W p l e rmX2_find s m args below meth c H locs 0 0 Q (F0 m 26 ls [])) (n : Nat) (v2 : Int32), LX2_find_2 Vdegrees Vcount v1 E26 n v2 = some r → ∀ (H : Heap) (locs : List Loc) (ls : Array Slot), va_P D vwCl (wV k aV Vdegrees Vfactors Vcount) H → va_D A (wV k aV Vdegrees Vfactors Vcount) → va_S A s.heap H locs → lv_has ls 3 [(0, .ref (aV 0)), (1, .int v1), (2, .int v2)] → W p l e rmX2_find s m args below meth c H locs 0 0 Q (F0 m 2 ls []) := by
    intro E26 hE26 n
    induction n with
    | zero => intro v2 h; simp [LX2_find_2] at h
    | succ n ih =>
    intro v2 h H locs ls hP hD hS hl
    rw [LX2_find_2] at h
    refine lv_iload_n hx hb dX2_find_2 rfl (lv_at hl 2 rfl) ?_
    refine lv_aload_n hx hb dX2_find_3 rfl (lv_at hl 0 rfl) ?_
    refine va_get (D := D) (ci := 2) (v := .int Vcount) (C := RX2) (T := TX2) (N := 3) hx hb hts iX2 hown hK hP 0 rfl rfl 2 (by decide) f18 (fun _ h9 => h9) rfl dX2_find_4 ?_
    refine lv_icmp_ge (tgt := 26) hx hb dX2_find_7 (by decide) (fun c1 => ?_) (fun c1 => ?_)
    · replace h := sf_t c1 h
      exact hE26 _ h _ _ _ hP hD hS (lv_sub hl [2] rfl)
    · replace h := sf_f c1 h
      refine lv_aload_n hx hb dX2_find_10 rfl (lv_at hl 0 rfl) ?_
      refine va_get (D := D) (ci := 2) (v := .ref (aV 1)) (C := RX2) (T := TX2) (N := 3) hx hb hts iX2 hown hK hP 0 rfl rfl 0 (by decide) f9 (fun _ h9 => h9) rfl dX2_find_11 ?_
      refine lv_iload_n hx hb dX2_find_14 rfl (lv_at hl 2 rfl) ?_
      obtain ⟨hi2, h⟩ := gi_inv h
      refine va_iald hx hb hK hP 1 0 rfl rfl hi2 dX2_find_15 ?_
      refine lv_iload_n hx hb dX2_find_16 rfl (lv_at hl 1 rfl) ?_
      refine lv_icmp_eq (tgt := 26) hx hb dX2_find_17 (by decide) (fun c3 => ?_) (fun c3 => ?_)
      · replace h := sf_t c3 h
        exact hE26 _ h _ _ _ hP hD hS (lv_sub hl [2] rfl)
      · replace h := sf_f c3 h
        refine lv_iinc (v := v2 + 1) (lv' := [(2, .int (v2 + 1)), (0, .ref (aV 0)), (1, .int v1)]) hx hb dX2_find_20 hl (k := 2) rfl rfl (by decide) rfl (fun ls hl => ?_)
        refine lv_goto (tgt := 2) hx hb dX2_find_23 (by decide) ?_
        exact ih _ h _ _ _ hP hD hS (lv_sub hl [1, 2, 0] rfl)
  suffices main : ∀ (H : Heap) (locs : List Loc) (ls : Array Slot), va_P D vwCl (wV k aV Vdegrees Vfactors Vcount) H → va_D A (wV k aV Vdegrees Vfactors Vcount) → va_S A s.heap H locs → lv_has ls 3 [(0, .ref (aV 0)), (1, .int v1)] → W p l e rmX2_find s m args below meth c H locs 0 0 Q (F0 m 0 ls []) from main _ _ _ hP hD hS hl
  clear hP hD hS hl ls hAe
  intro H locs ls hP hD hS hl
  refine lv_iconst (v := 0) hx hb dX2_find_0 (by decide) ?_
  refine lv_istore_n (lv' := [(2, .int 0), (0, .ref (aV 0)), (1, .int v1)]) hx hb dX2_find_1 rfl hl (by decide) rfl (fun ls hl => ?_)
  refine LH_2 _ (fun v2 h H locs ls hP hD hS hl => ?_) _ _ h _ _ _ hP hD hS (lv_sub hl [1, 2, 0] rfl)
  · skip
    refine lv_iload_n hx hb dX2_find_26 rfl (lv_at hl 0 rfl) ?_
    subst hQ
    cases h
    exact W.iret hx hb hr (fun t ht hW => ⟨⟨_, (), rfl, rfl, by rw [ht]; exact hP, va_K.moved hW.alike hK, hD⟩, hS.F ht⟩) hS.2.2 dX2_find_27
def fX2_put (v1 : Int32) (v2 : Int32) (Vdegrees : Nat → Int32) (Vfactors : Nat → Int32) (Vcount : Int32) : Option ((Nat → Int32) × (Nat → Int32) × Int32) := bnd1 (fX2_find v1 Vdegrees Vcount) (fun r1 => (if 12 ≤ r1 then some (Vdegrees, Vfactors, Vcount) else gi r1 12 (gi r1 12 (some (upd Vdegrees (r1.toNatClampNeg) v1, upd Vfactors (r1.toNatClampNeg) v2, if Vcount < (r1 + 1) then (r1 + 1) else Vcount)))))
abbrev rmX2_put : Room := { frames := 1, cells := 0, slots := 0, locals := 22 }
set_option maxHeartbeats 4000000 in
set_option maxRecDepth 100000 in
theorem met_X2_put (l : Launch) (D : va_G) (k : Nat → ClassId) (aV : Nat → Nat) (sz : Nat) (Vdegrees : Nat → Int32) (Vfactors : Nat → Int32) (Vcount : Int32) (v1 : Int32) (v2 : Int32) (RVdegrees : Nat → Int32) (RVfactors : Nat → Int32) (RVcount : Int32) (h : fX2_put v1 v2 Vdegrees Vfactors Vcount = some (RVdegrees, RVfactors, RVcount)) : Met l yX2_put wsX2_put rmX2_put (va_Pc [.ref (aV 0), .int v1, .int v2] (PreW D k (wV k aV Vdegrees Vfactors Vcount) sz)) (va_Qv (fun _ : Unit => True) (fun _ t => PostW D k (va_A (wV k aV Vdegrees Vfactors Vcount) sz) (wV k aV RVdegrees RVfactors RVcount) t) (va_A (wV k aV Vdegrees Vfactors Vcount) sz)) 0 0 (va_A (wV k aV Vdegrees Vfactors Vcount) sz) := by
  refine Met.ofW (cc := cX2_put) (maxL := 4) (ret := none) (by decide) rfl ?_
  intro p e s m args below meth c s₁ B hml hv
  obtain ⟨hav, hsz, hP, hK, hD0⟩ := hv
  have hx := B.exec
  have hb := B.bytes
  have hr := B.returns
  have hts := atoms_spec (ws := wsX2_put) B.pre
  have hown : s.vm.findClass RX2 = some m.cls := findClass_of_methodNamed B.named
  have hlocks := B.notSynchronized
  subst hsz
  have hD := hD0.self (sz := s.heap.size)
  clear hD0
  generalize hAe : va_A (wV k aV Vdegrees Vfactors Vcount) s.heap.size = A at hD ⊢
  have hA : ∀ q : Nat, s.heap.size ≤ q → A q := fun q h => by rw [← hAe]; exact Or.inr h
  have hS : va_S A s.heap s.heap [] := va_S.rf
  have hl := lv_entry ([.ref (aV 0), .int v1, .int v2]) (n := 4) (Nat.le_of_ble_eq_true rfl)
  rw [show entryFrame m args 4 = entryFrame m ([.ref (aV 0), .int v1, .int v2] : List Value).toArray 4 from by rw [hav], lg_entry_eq]
  generalize (lg_sl ([.ref (aV 0), .int v1, .int v2]) ++ List.replicate (4 - (lg_sl ([.ref (aV 0), .int v1, .int v2])).length) Slot.unset).toArray = ls at hl ⊢
  replace hl : lv_has ls 4 [(0, .ref (aV 0)), (1, .int v1), (2, .int v2)] := hl
  have f9 := hts (.fieldLink RX2 9 "UncertainBook$Coverage" "degrees" "[I") (by decide +kernel)
  have f15 := hts (.fieldLink RX2 15 "UncertainBook$Coverage" "factors" "[I") (by decide +kernel)
  have f18 := hts (.fieldLink RX2 18 "UncertainBook$Coverage" "count" "I") (by decide +kernel)
  have mkmax := hts (.methodLink RX2 26 Lib.Math.max.name) (by decide +kernel)
  have msmax := hts (.static Lib.Math.max.name) (by decide +kernel)
  have mimax := hts (.initialized "java/lang/Math") (by decide +kernel)
  have mcmax := hts (.code Lib.Math.max.name Lib.Math.max.code 2 (some .int)) (by decide +kernel)
  have iX2 : ∀ w ∈ u_ws RX2 TX2 3, w ∈ wsX2_put := by decide +kernel
  refine w_q (fun Q hQ => ?_)
  unfold fX2_put at h
  show W p l e rmX2_put s m args below meth c s.heap [] 0 0 Q (F0 m 0 ls [])
  suffices main : ∀ (H : Heap) (locs : List Loc) (ls : Array Slot), va_P D vwCl (wV k aV Vdegrees Vfactors Vcount) H → va_D A (wV k aV Vdegrees Vfactors Vcount) → va_S A s.heap H locs → lv_has ls 4 [(0, .ref (aV 0)), (1, .int v1), (2, .int v2)] → W p l e rmX2_put s m args below meth c H locs 0 0 Q (F0 m 0 ls []) from main _ _ _ hP hD hS hl
  clear hP hD hS hl ls hAe
  intro H locs ls hP hD hS hl
  refine lv_aload_n hx hb dX2_put_0 rfl (lv_at hl 0 rfl) ?_
  refine lv_iload_n hx hb dX2_put_1 rfl (lv_at hl 1 rfl) ?_
  obtain ⟨r1, hc1, h⟩ := bnd1_inv h
  have hFc := va_free (wc := (wV k aV Vdegrees Vfactors Vcount)) hD hS hA [0, 1, 2] rfl
  refine xc_i (va_runV (As := [.int v1]) (rest := []) ⟨hx, hb, hml, hown, hts⟩ (met_X2_find l D k aV H.size Vdegrees Vfactors Vcount v1 r1 hc1) (cwV 1 hts gX2_put_X2_find rfl rfl rfl (by decide +kernel) ⟨Nat.le_of_ble_eq_true rfl, Nat.le_of_ble_eq_true rfl⟩) ⟨pw_blind, va_recv hK hP (ci := 2) (q0 := 0) rfl rfl, pw_start hP hK hD⟩ rfl rfl hl.1 rfl (lv_room (Nat.le_of_ble_eq_true rfl)) dX2_put_2 ⟨Nat.zero_le _, Nat.zero_le _⟩) hS hFc (fun H1 locs hP1 hD1 hk1 hS => ?_)
  obtain ⟨hP, hD⟩ := vj_all hFc hP1 hD1
  clear hP1 hD1 hk1 hFc
  generalize H1 = H at hP hS ⊢
  refine lv_istore_n (lv' := [(3, .int r1), (0, .ref (aV 0)), (1, .int v1), (2, .int v2)]) hx hb dX2_put_5 rfl hl (by decide) rfl (fun ls hl => ?_)
  refine lv_iload_n hx hb dX2_put_6 rfl (lv_at hl 0 rfl) ?_
  refine lv_bipush (v := 12) hx hb dX2_put_7 (by decide) ?_
  refine lv_icmp_ge (tgt := 40) hx hb dX2_put_9 (by decide) (fun c2 => ?_) (fun c2 => ?_)
  · replace h := sf_t c2 h
    subst hQ
    cases h
    exact W.vret hx hb hr (fun t ht hW => ⟨⟨(), rfl, trivial, by rw [ht]; exact hP, va_K.moved hW.alike hK, hD⟩, hS.F ht⟩) hS.2.2 dX2_put_40
  · replace h := sf_f c2 h
    refine lv_aload_n hx hb dX2_put_12 rfl (lv_at hl 1 rfl) ?_
    refine va_get (D := D) (ci := 2) (v := .ref (aV 1)) (C := RX2) (T := TX2) (N := 3) hx hb hts iX2 hown hK hP 0 rfl rfl 0 (by decide) f9 (fun _ h9 => h9) rfl dX2_put_13 ?_
    refine lv_iload_n hx hb dX2_put_16 rfl (lv_at hl 0 rfl) ?_
    refine lv_iload_n hx hb dX2_put_17 rfl (lv_at hl 2 rfl) ?_
    obtain ⟨hi3, h⟩ := gi_inv h
    refine va_iast hx hb hK hP hD hS 1 0 rfl rfl hi3 dX2_put_18 (fun H locs hP hD hS => ?_)
    replace hP : va_P D vwCl (wV k aV (upd Vdegrees (r1.toNatClampNeg) v1) Vfactors Vcount) H := hP
    replace hD : va_D A (wV k aV (upd Vdegrees (r1.toNatClampNeg) v1) Vfactors Vcount) := hD
    refine lv_aload_n hx hb dX2_put_19 rfl (lv_at hl 1 rfl) ?_
    refine va_get (D := D) (ci := 2) (v := .ref (aV 2)) (C := RX2) (T := TX2) (N := 3) hx hb hts iX2 hown hK hP 0 rfl rfl 1 (by decide) f15 (fun _ h9 => h9) rfl dX2_put_20 ?_
    refine lv_iload_n hx hb dX2_put_23 rfl (lv_at hl 0 rfl) ?_
    refine lv_iload_n hx hb dX2_put_24 rfl (lv_at hl 3 rfl) ?_
    obtain ⟨hi4, h⟩ := gi_inv h
    refine va_iast hx hb hK hP hD hS 2 0 rfl rfl hi4 dX2_put_25 (fun H locs hP hD hS => ?_)
    replace hP : va_P D vwCl (wV k aV (upd Vdegrees (r1.toNatClampNeg) v1) (upd Vfactors (r1.toNatClampNeg) v2) Vcount) H := hP
    replace hD : va_D A (wV k aV (upd Vdegrees (r1.toNatClampNeg) v1) (upd Vfactors (r1.toNatClampNeg) v2) Vcount) := hD
    refine lv_aload_n hx hb dX2_put_26 rfl (lv_at hl 1 rfl) ?_
    refine lv_aload_n hx hb dX2_put_27 rfl (lv_at hl 1 rfl) ?_
    refine va_get (D := D) (ci := 2) (v := .int Vcount) (C := RX2) (T := TX2) (N := 3) hx hb hts iX2 hown hK hP 0 rfl rfl 2 (by decide) f18 (fun _ h9 => h9) rfl dX2_put_28 ?_
    refine lv_iload_n hx hb dX2_put_31 rfl (lv_at hl 0 rfl) ?_
    refine lv_iconst (v := 1) hx hb dX2_put_32 (by decide) ?_
    refine lv_iadd hx hb dX2_put_33 ?_
    refine va_mmax hx hb (hml.trans hl.1.symm) hown mkmax msmax mimax mcmax (Nat.le_of_ble_eq_true rfl) (Nat.le_of_ble_eq_true rfl) (Nat.zero_le _) (Nat.zero_le _) dX2_put_34 ?_
    refine va_put (D := D) (ci := 2) (v := .int (if Vcount < (r1 + 1) then (r1 + 1) else Vcount)) (ty := .int) (C := RX2) (T := TX2) (N := 3) hx hb hts iX2 tyX2 tyX2_ok nmX2 hown hK hP hD hS 0 rfl rfl 2 (by decide) f18 (fun _ h9 => h9) rfl (by decide +kernel) rfl rfl (Nat.le_of_ble_eq_true rfl) dX2_put_37 (fun H locs hP hD hS => ?_)
    replace hP : va_P D vwCl (wV k aV (upd Vdegrees (r1.toNatClampNeg) v1) (upd Vfactors (r1.toNatClampNeg) v2) (if Vcount < (r1 + 1) then (r1 + 1) else Vcount)) H := hP
    replace hD : va_D A (wV k aV (upd Vdegrees (r1.toNatClampNeg) v1) (upd Vfactors (r1.toNatClampNeg) v2) (if Vcount < (r1 + 1) then (r1 + 1) else Vcount)) := hD
    subst hQ
    cases h
    exact W.vret hx hb hr (fun t ht hW => ⟨⟨(), rfl, trivial, by rw [ht]; exact hP, va_K.moved hW.alike hK, hD⟩, hS.F ht⟩) hS.2.2 dX2_put_40
def fX2_hasRoomFor (v1 : Int32) (Vdegrees : Nat → Int32) (Vcount : Int32) : Option (Int32) := bnd1 (fX2_find v1 Vdegrees Vcount) (fun r1 => (if 12 ≤ r1 then some (0) else some (1)))
abbrev rmX2_hasRoomFor : Room := { frames := 1, cells := 0, slots := 0, locals := 22 }
set_option maxHeartbeats 4000000 in
set_option maxRecDepth 100000 in
theorem met_X2_hasRoomFor (l : Launch) (D : va_G) (k : Nat → ClassId) (aV : Nat → Nat) (sz : Nat) (Vdegrees : Nat → Int32) (Vfactors : Nat → Int32) (Vcount : Int32) (v1 : Int32) (r : Int32) (h : fX2_hasRoomFor v1 Vdegrees Vcount = some r) : Met l yX2_hasRoomFor wsX2_hasRoomFor rmX2_hasRoomFor (va_Pc [.ref (aV 0), .int v1] (PreW D k (wV k aV Vdegrees Vfactors Vcount) sz)) (va_Qi (fun r9 (_ : Unit) => r9 = r) (fun _ t => PostW D k (va_A (wV k aV Vdegrees Vfactors Vcount) sz) (wV k aV Vdegrees Vfactors Vcount) t) (va_A (wV k aV Vdegrees Vfactors Vcount) sz)) 0 0 (va_A (wV k aV Vdegrees Vfactors Vcount) sz) := by
  refine Met.ofW (cc := cX2_hasRoomFor) (maxL := 2) (ret := (some .boolean)) (by decide) rfl ?_
  intro p e s m args below meth c s₁ B hml hv
  obtain ⟨hav, hsz, hP, hK, hD0⟩ := hv
  have hx := B.exec
  have hb := B.bytes
  have hr := B.returns
  have hts := atoms_spec (ws := wsX2_hasRoomFor) B.pre
  have hown : s.vm.findClass RX2 = some m.cls := findClass_of_methodNamed B.named
  have hlocks := B.notSynchronized
  subst hsz
  have hD := hD0.self (sz := s.heap.size)
  clear hD0
  generalize hAe : va_A (wV k aV Vdegrees Vfactors Vcount) s.heap.size = A at hD ⊢
  have hA : ∀ q : Nat, s.heap.size ≤ q → A q := fun q h => by rw [← hAe]; exact Or.inr h
  have hS : va_S A s.heap s.heap [] := va_S.rf
  have hl := lv_entry ([.ref (aV 0), .int v1]) (n := 2) (Nat.le_of_ble_eq_true rfl)
  rw [show entryFrame m args 2 = entryFrame m ([.ref (aV 0), .int v1] : List Value).toArray 2 from by rw [hav], lg_entry_eq]
  generalize (lg_sl ([.ref (aV 0), .int v1]) ++ List.replicate (2 - (lg_sl ([.ref (aV 0), .int v1])).length) Slot.unset).toArray = ls at hl ⊢
  replace hl : lv_has ls 2 [(0, .ref (aV 0)), (1, .int v1)] := hl
  refine w_q (fun Q hQ => ?_)
  unfold fX2_hasRoomFor at h
  show W p l e rmX2_hasRoomFor s m args below meth c s.heap [] 0 0 Q (F0 m 0 ls [])
  suffices main : ∀ (H : Heap) (locs : List Loc) (ls : Array Slot), va_P D vwCl (wV k aV Vdegrees Vfactors Vcount) H → va_D A (wV k aV Vdegrees Vfactors Vcount) → va_S A s.heap H locs → lv_has ls 2 [(0, .ref (aV 0)), (1, .int v1)] → W p l e rmX2_hasRoomFor s m args below meth c H locs 0 0 Q (F0 m 0 ls []) from main _ _ _ hP hD hS hl
  clear hP hD hS hl ls hAe
  intro H locs ls hP hD hS hl
  refine lv_aload_n hx hb dX2_hasRoomFor_0 rfl (lv_at hl 0 rfl) ?_
  refine lv_iload_n hx hb dX2_hasRoomFor_1 rfl (lv_at hl 1 rfl) ?_
  obtain ⟨r1, hc1, h⟩ := bnd1_inv h
  have hFc := va_free (wc := (wV k aV Vdegrees Vfactors Vcount)) hD hS hA [0, 1, 2] rfl
  refine xc_i (va_runV (As := [.int v1]) (rest := []) ⟨hx, hb, hml, hown, hts⟩ (met_X2_find l D k aV H.size Vdegrees Vfactors Vcount v1 r1 hc1) (cwV 1 hts gX2_hasRoomFor_X2_find rfl rfl rfl (by decide +kernel) ⟨Nat.le_of_ble_eq_true rfl, Nat.le_of_ble_eq_true rfl⟩) ⟨pw_blind, va_recv hK hP (ci := 2) (q0 := 0) rfl rfl, pw_start hP hK hD⟩ rfl rfl hl.1 rfl (lv_room (Nat.le_of_ble_eq_true rfl)) dX2_hasRoomFor_2 ⟨Nat.zero_le _, Nat.zero_le _⟩) hS hFc (fun H1 locs hP1 hD1 hk1 hS => ?_)
  obtain ⟨hP, hD⟩ := vj_all hFc hP1 hD1
  clear hP1 hD1 hk1 hFc
  generalize H1 = H at hP hS ⊢
  refine lv_bipush (v := 12) hx hb dX2_hasRoomFor_5 (by decide) ?_
  refine lv_icmp_ge (tgt := 14) hx hb dX2_hasRoomFor_7 (by decide) (fun c2 => ?_) (fun c2 => ?_)
  · replace h := sf_t c2 h
    refine lv_iconst (v := 0) hx hb dX2_hasRoomFor_14 (by decide) ?_
    subst hQ
    cases h
    exact W.zret hx hb hr rfl (fun t ht hW => ⟨⟨_, (), rfl, rfl, by rw [ht]; exact hP, va_K.moved hW.alike hK, hD⟩, hS.F ht⟩) hS.2.2 dX2_hasRoomFor_15
  · replace h := sf_f c2 h
    refine lv_iconst (v := 1) hx hb dX2_hasRoomFor_10 (by decide) ?_
    refine lv_goto (tgt := 15) hx hb dX2_hasRoomFor_11 (by decide) ?_
    subst hQ
    cases h
    exact W.zret hx hb hr rfl (fun t ht hW => ⟨⟨_, (), rfl, rfl, by rw [ht]; exact hP, va_K.moved hW.alike hK, hD⟩, hS.F ht⟩) hS.2.2 dX2_hasRoomFor_15
def fX4_degreesOf (v1 : Int32) (Icounts : Nat → Int32) : Option (Int32) := gi v1 6 ((if (Icounts v1.toNatClampNeg) ≤ 1 then some (0) else gi v1 6 (some ((Icounts v1.toNatClampNeg) - 1))))
abbrev rmX4_degreesOf : Room := { frames := 0, cells := 0, slots := 0, locals := 0 }
set_option maxHeartbeats 4000000 in
set_option maxRecDepth 100000 in
theorem met_X4_degreesOf (l : Launch) (D : va_G) (k : Nat → ClassId) (aI : Nat → Nat) (sz : Nat) (Iestimates : Nat → Int32) (Ivariances : Nat → Int32) (Isorts : Nat → Int32) (Iwidths : Nat → Int32) (Icounts : Nat → Int32) (Ireadings : Nat → Nat → Int32) (Ifirsts : Nat → Int32) (Iseconds : Nat → Int32) (Icovariances : Nat → Nat → Int32) (v1 : Int32) (r : Int32) (h : fX4_degreesOf v1 Icounts = some r) : Met l yX4_degreesOf wsX4_degreesOf rmX4_degreesOf (va_Pc [.ref (aI 0), .int v1] (PreW D k (wI k aI Iestimates Ivariances Isorts Iwidths Icounts Ireadings Ifirsts Iseconds Icovariances) sz)) (va_Qi (fun r9 (_ : Unit) => r9 = r) (fun _ t => PostW D k (va_A (wI k aI Iestimates Ivariances Isorts Iwidths Icounts Ireadings Ifirsts Iseconds Icovariances) sz) (wI k aI Iestimates Ivariances Isorts Iwidths Icounts Ireadings Ifirsts Iseconds Icovariances) t) (va_A (wI k aI Iestimates Ivariances Isorts Iwidths Icounts Ireadings Ifirsts Iseconds Icovariances) sz)) 0 0 (va_A (wI k aI Iestimates Ivariances Isorts Iwidths Icounts Ireadings Ifirsts Iseconds Icovariances) sz) := by
  refine Met.ofW (cc := cX4_degreesOf) (maxL := 2) (ret := (some .int)) (by decide) rfl ?_
  intro p e s m args below meth c s₁ B hml hv
  obtain ⟨hav, hsz, hP, hK, hD0⟩ := hv
  have hx := B.exec
  have hb := B.bytes
  have hr := B.returns
  have hts := atoms_spec (ws := wsX4_degreesOf) B.pre
  have hown : s.vm.findClass RX4 = some m.cls := findClass_of_methodNamed B.named
  have hlocks := B.notSynchronized
  subst hsz
  have hD := hD0.self (sz := s.heap.size)
  clear hD0
  generalize hAe : va_A (wI k aI Iestimates Ivariances Isorts Iwidths Icounts Ireadings Ifirsts Iseconds Icovariances) s.heap.size = A at hD ⊢
  have hA : ∀ q : Nat, s.heap.size ≤ q → A q := fun q h => by rw [← hAe]; exact Or.inr h
  have hS : va_S A s.heap s.heap [] := va_S.rf
  have hl := lv_entry ([.ref (aI 0), .int v1]) (n := 2) (Nat.le_of_ble_eq_true rfl)
  rw [show entryFrame m args 2 = entryFrame m ([.ref (aI 0), .int v1] : List Value).toArray 2 from by rw [hav], lg_entry_eq]
  generalize (lg_sl ([.ref (aI 0), .int v1]) ++ List.replicate (2 - (lg_sl ([.ref (aI 0), .int v1])).length) Slot.unset).toArray = ls at hl ⊢
  replace hl : lv_has ls 2 [(0, .ref (aI 0)), (1, .int v1)] := hl
  have f24 := hts (.fieldLink RX4 24 "UncertainBook$Inputs" "counts" "[I") (by decide +kernel)
  have iX4 : ∀ w ∈ u_ws RX4 TX4 9, w ∈ wsX4_degreesOf := by decide +kernel
  refine w_q (fun Q hQ => ?_)
  unfold fX4_degreesOf at h
  show W p l e rmX4_degreesOf s m args below meth c s.heap [] 0 0 Q (F0 m 0 ls [])
  suffices main : ∀ (H : Heap) (locs : List Loc) (ls : Array Slot), va_P D vwCl (wI k aI Iestimates Ivariances Isorts Iwidths Icounts Ireadings Ifirsts Iseconds Icovariances) H → va_D A (wI k aI Iestimates Ivariances Isorts Iwidths Icounts Ireadings Ifirsts Iseconds Icovariances) → va_S A s.heap H locs → lv_has ls 2 [(0, .ref (aI 0)), (1, .int v1)] → W p l e rmX4_degreesOf s m args below meth c H locs 0 0 Q (F0 m 0 ls []) from main _ _ _ hP hD hS hl
  clear hP hD hS hl ls hAe
  intro H locs ls hP hD hS hl
  refine lv_aload_n hx hb dX4_degreesOf_0 rfl (lv_at hl 0 rfl) ?_
  refine va_get (D := D) (ci := 4) (v := .ref (aI 5)) (C := RX4) (T := TX4) (N := 9) hx hb hts iX4 hown hK hP 0 rfl rfl 4 (by decide) f24 (fun _ h9 => h9) rfl dX4_degreesOf_1 ?_
  refine lv_iload_n hx hb dX4_degreesOf_4 rfl (lv_at hl 1 rfl) ?_
  obtain ⟨hi1, h⟩ := gi_inv h
  refine va_iald hx hb hK hP 5 0 rfl rfl hi1 dX4_degreesOf_5 ?_
  refine lv_iconst (v := 1) hx hb dX4_degreesOf_6 (by decide) ?_
  refine lv_icmp_le (tgt := 21) hx hb dX4_degreesOf_7 (by decide) (fun c2 => ?_) (fun c2 => ?_)
  · replace h := sf_t c2 h
    refine lv_iconst (v := 0) hx hb dX4_degreesOf_21 (by decide) ?_
    subst hQ
    cases h
    exact W.iret hx hb hr (fun t ht hW => ⟨⟨_, (), rfl, rfl, by rw [ht]; exact hP, va_K.moved hW.alike hK, hD⟩, hS.F ht⟩) hS.2.2 dX4_degreesOf_22
  · replace h := sf_f c2 h
    refine lv_aload_n hx hb dX4_degreesOf_10 rfl (lv_at hl 0 rfl) ?_
    refine va_get (D := D) (ci := 4) (v := .ref (aI 5)) (C := RX4) (T := TX4) (N := 9) hx hb hts iX4 hown hK hP 0 rfl rfl 4 (by decide) f24 (fun _ h9 => h9) rfl dX4_degreesOf_11 ?_
    refine lv_iload_n hx hb dX4_degreesOf_14 rfl (lv_at hl 1 rfl) ?_
    obtain ⟨hi3, h⟩ := gi_inv h
    refine va_iald hx hb hK hP 5 0 rfl rfl hi3 dX4_degreesOf_15 ?_
    refine lv_iconst (v := 1) hx hb dX4_degreesOf_16 (by decide) ?_
    refine lv_isub hx hb dX4_degreesOf_17 ?_
    refine lv_goto (tgt := 22) hx hb dX4_degreesOf_18 (by decide) ?_
    subst hQ
    cases h
    exact W.iret hx hb hr (fun t ht hW => ⟨⟨_, (), rfl, rfl, by rw [ht]; exact hP, va_K.moved hW.alike hK, hD⟩, hS.F ht⟩) hS.2.2 dX4_degreesOf_22
def LX4_reckonReadings_15 (Icounts : Nat → Int32) (Ireadings : Nat → Nat → Int32) (v1 : Int32) (E53 : Int32 → Int32 → Int32 → (Nat → Int32) → (Nat → Int32) → Option ((Nat → Int32) × (Nat → Int32))) : Nat → Int32 → Int32 → Int32 → Int32 → (Nat → Int32) → (Nat → Int32) → Option ((Nat → Int32) × (Nat → Int32))
  | 0, _, _, _, _, _, _ => none
  | fuel + 1, v2, v3, v4, v5, Iestimates, Ivariances => (if v2 ≤ v5 then E53 v2 v3 v4 Iestimates Ivariances else gi v1 6 (gi v5 8 (LX4_reckonReadings_15 Icounts Ireadings v1 E53 fuel v2 (v3 + (Ireadings (v1.toNatClampNeg) v5.toNatClampNeg)) (v4 + ((Ireadings (v1.toNatClampNeg) v5.toNatClampNeg) * (Ireadings (v1.toNatClampNeg) v5.toNatClampNeg))) (v5 + 1) Iestimates Ivariances)))
def BX4_reckonReadings_71 (Icounts : Nat → Int32) (Ireadings : Nat → Nat → Int32) (v1 : Int32)  (v2 : Int32) (v3 : Int32) (v4 : Int32) (s1 : Int32) (s2 : Int32) (Iestimates : Nat → Int32) (Ivariances : Nat → Int32) : Option ((Nat → Int32) × (Nat → Int32)) := gi s1 6 ((if v2 ≤ 1 then gi v1 6 (some (upd Iestimates (s1.toNatClampNeg) s2, upd Ivariances (v1.toNatClampNeg) 0)) else gz ((v2 * v2) * (v2 - 1)) (gi v1 6 (some (upd Iestimates (s1.toNatClampNeg) s2, upd Ivariances (v1.toNatClampNeg) (((v2 * v4) - (v3 * v3)) / ((v2 * v2) * (v2 - 1))))))))
def fX4_reckonReadings (v1 : Int32) (Iestimates : Nat → Int32) (Ivariances : Nat → Int32) (Icounts : Nat → Int32) (Ireadings : Nat → Nat → Int32) : Option ((Nat → Int32) × (Nat → Int32)) := gi v1 6 (LX4_reckonReadings_15 Icounts Ireadings v1 (fun (v2 : Int32) (v3 : Int32) (v4 : Int32) (Iestimates : Nat → Int32) (Ivariances : Nat → Int32) => (if v2 ≤ 0 then BX4_reckonReadings_71 Icounts Ireadings v1 v2 v3 v4 v1 0 Iestimates Ivariances else bnd1 (fJ9_floorDiv_7cf53 v3 v2) (fun r11 => BX4_reckonReadings_71 Icounts Ireadings v1 v2 v3 v4 v1 r11 Iestimates Ivariances))) 1000 (Icounts v1.toNatClampNeg) 0 0 0 Iestimates Ivariances)
abbrev rmX4_reckonReadings : Room := { frames := 1, cells := 0, slots := 0, locals := 22 }
set_option maxHeartbeats 4000000 in
set_option maxRecDepth 100000 in
theorem met_X4_reckonReadings (l : Launch) (D : va_G) (k : Nat → ClassId) (aI : Nat → Nat) (sz : Nat) (Iestimates : Nat → Int32) (Ivariances : Nat → Int32) (Isorts : Nat → Int32) (Iwidths : Nat → Int32) (Icounts : Nat → Int32) (Ireadings : Nat → Nat → Int32) (Ifirsts : Nat → Int32) (Iseconds : Nat → Int32) (Icovariances : Nat → Nat → Int32) (v1 : Int32) (RIestimates : Nat → Int32) (RIvariances : Nat → Int32) (h : fX4_reckonReadings v1 Iestimates Ivariances Icounts Ireadings = some (RIestimates, RIvariances)) : Met l yX4_reckonReadings wsX4_reckonReadings rmX4_reckonReadings (va_Pc [.ref (aI 0), .int v1] (PreW D k (wI k aI Iestimates Ivariances Isorts Iwidths Icounts Ireadings Ifirsts Iseconds Icovariances) sz)) (va_Qv (fun _ : Unit => True) (fun _ t => PostW D k (va_A (wI k aI Iestimates Ivariances Isorts Iwidths Icounts Ireadings Ifirsts Iseconds Icovariances) sz) (wI k aI RIestimates RIvariances Isorts Iwidths Icounts Ireadings Ifirsts Iseconds Icovariances) t) (va_A (wI k aI Iestimates Ivariances Isorts Iwidths Icounts Ireadings Ifirsts Iseconds Icovariances) sz)) 0 0 (va_A (wI k aI Iestimates Ivariances Isorts Iwidths Icounts Ireadings Ifirsts Iseconds Icovariances) sz) := by
  refine Met.ofW (cc := cX4_reckonReadings) (maxL := 7) (ret := none) (by decide) rfl ?_
  intro p e s m args below meth c s₁ B hml hv
  obtain ⟨hav, hsz, hP, hK, hD0⟩ := hv
  have hx := B.exec
  have hb := B.bytes
  have hr := B.returns
  have hts := atoms_spec (ws := wsX4_reckonReadings) B.pre
  have hown : s.vm.findClass RX4 = some m.cls := findClass_of_methodNamed B.named
  have hlocks := B.notSynchronized
  subst hsz
  have hD := hD0.self (sz := s.heap.size)
  clear hD0
  generalize hAe : va_A (wI k aI Iestimates Ivariances Isorts Iwidths Icounts Ireadings Ifirsts Iseconds Icovariances) s.heap.size = A at hD ⊢
  have hA : ∀ q : Nat, s.heap.size ≤ q → A q := fun q h => by rw [← hAe]; exact Or.inr h
  have hS : va_S A s.heap s.heap [] := va_S.rf
  have hl := lv_entry ([.ref (aI 0), .int v1]) (n := 7) (Nat.le_of_ble_eq_true rfl)
  rw [show entryFrame m args 7 = entryFrame m ([.ref (aI 0), .int v1] : List Value).toArray 7 from by rw [hav], lg_entry_eq]
  generalize (lg_sl ([.ref (aI 0), .int v1]) ++ List.replicate (7 - (lg_sl ([.ref (aI 0), .int v1])).length) Slot.unset).toArray = ls at hl ⊢
  replace hl : lv_has ls 7 [(0, .ref (aI 0)), (1, .int v1)] := hl
  have f9 := hts (.fieldLink RX4 9 "UncertainBook$Inputs" "estimates" "[I") (by decide +kernel)
  have f15 := hts (.fieldLink RX4 15 "UncertainBook$Inputs" "variances" "[I") (by decide +kernel)
  have f24 := hts (.fieldLink RX4 24 "UncertainBook$Inputs" "counts" "[I") (by decide +kernel)
  have f29 := hts (.fieldLink RX4 29 "UncertainBook$Inputs" "readings" "[[I") (by decide +kernel)
  have iX4 : ∀ w ∈ u_ws RX4 TX4 9, w ∈ wsX4_reckonReadings := by decide +kernel
  refine w_q (fun Q hQ => ?_)
  unfold fX4_reckonReadings at h
  show W p l e rmX4_reckonReadings s m args below meth c s.heap [] 0 0 Q (F0 m 0 ls [])
  have LH_15 : ∀ (E53 : Int32 → Int32 → Int32 → (Nat → Int32) → (Nat → Int32) → Option ((Nat → Int32) × (Nat → Int32))) (hE53 : ∀ (v2 : Int32) (v3 : Int32) (v4 : Int32) (Iestimates : Nat → Int32) (Ivariances : Nat → Int32), E53 v2 v3 v4 Iestimates Ivariances = some (RIestimates, RIvariances) → ∀ (H : Heap) (locs : List Loc) (ls : Array Slot), va_P D vwCl (wI k aI Iestimates Ivariances Isorts Iwidths Icounts Ireadings Ifirsts Iseconds Icovariances) H → va_D A (wI k aI Iestimates Ivariances Isorts Iwidths Icounts Ireadings Ifirsts Iseconds Icovariances) → va_S A s.heap H locs → lv_has ls 7 [(0, .ref (aI 0)), (1, .int v1), (2, .int v2), (3, .int v3), (4, .int v4)] → W p l e rmX4_reckonReadings s m args below meth c H locs 0 0 Q (F0 m 53 ls [])) (n : Nat) (v2 : Int32) (v3 : Int32) (v4 : Int32) (v5 : Int32) (Iestimates : Nat → Int32) (Ivariances : Nat → Int32), LX4_reckonReadings_15 Icounts Ireadings v1 E53 n v2 v3 v4 v5 Iestimates Ivariances = some (RIestimates, RIvariances) → ∀ (H : Heap) (locs : List Loc) (ls : Array Slot), va_P D vwCl (wI k aI Iestimates Ivariances Isorts Iwidths Icounts Ireadings Ifirsts Iseconds Icovariances) H → va_D A (wI k aI Iestimates Ivariances Isorts Iwidths Icounts Ireadings Ifirsts Iseconds Icovariances) → va_S A s.heap H locs → lv_has ls 7 [(0, .ref (aI 0)), (1, .int v1), (2, .int v2), (3, .int v3), (4, .int v4), (5, .int v5)] → W p l e rmX4_reckonReadings s m args below meth c H locs 0 0 Q (F0 m 15 ls []) := by
    intro E53 hE53 n
    induction n with
    | zero => intro v2 v3 v4 v5 Iestimates Ivariances h; simp [LX4_reckonReadings_15] at h
    | succ n ih =>
    intro v2 v3 v4 v5 Iestimates Ivariances h H locs ls hP hD hS hl
    rw [LX4_reckonReadings_15] at h
    refine lv_iload hx hb dX4_reckonReadings_15 (lv_at hl 5 rfl) ?_
    refine lv_iload_n hx hb dX4_reckonReadings_17 rfl (lv_at hl 2 rfl) ?_
    refine lv_icmp_ge (tgt := 53) hx hb dX4_reckonReadings_18 (by decide) (fun c2 => ?_) (fun c2 => ?_)
    · replace h := sf_t c2 h
      exact hE53 _ _ _ _ _ h _ _ _ hP hD hS (lv_sub hl [0, 1, 2, 3, 4] rfl)
    · replace h := sf_f c2 h
      refine lv_aload_n hx hb dX4_reckonReadings_21 rfl (lv_at hl 0 rfl) ?_
      refine va_get (D := D) (ci := 4) (v := .ref (aI 6)) (C := RX4) (T := TX4) (N := 9) hx hb hts iX4 hown hK hP 0 rfl rfl 5 (by decide) f29 (fun _ h9 => h9) rfl dX4_reckonReadings_22 ?_
      refine lv_iload_n hx hb dX4_reckonReadings_25 rfl (lv_at hl 1 rfl) ?_
      obtain ⟨hi3, h⟩ := gi_inv h
      have hj3 : v1.toNatClampNeg < 6 := vp_lt hi3
      refine va_alda (v := aI (7 + v1.toNatClampNeg)) hx hb hK hP 6 4 rfl rfl hi3 (by rw [if_pos hj3]) dX4_reckonReadings_26 ?_
      refine lv_iload hx hb dX4_reckonReadings_27 (lv_at hl 5 rfl) ?_
      obtain ⟨hi4, h⟩ := gi_inv h
      refine va_iald hx hb hK hP (7 + v1.toNatClampNeg) 0 ((fun (j : Nat) (hj : j < 6) => (by rcases (show j = 0 ∨ j = 1 ∨ j = 2 ∨ j = 3 ∨ j = 4 ∨ j = 5 by omega) with rfl | rfl | rfl | rfl | rfl | rfl <;> rfl : ((wI k aI Iestimates Ivariances Isorts Iwidths Icounts Ireadings Ifirsts Iseconds Icovariances))[7 + j]? = some (aI (7 + j), .inl (k 0, 8, .inl (Ireadings j))))) _ hj3) rfl hi4 dX4_reckonReadings_29 ?_
      refine lv_istore (lv' := [(6, .int (Ireadings (v1.toNatClampNeg) v5.toNatClampNeg)), (0, .ref (aI 0)), (1, .int v1), (2, .int v2), (3, .int v3), (4, .int v4), (5, .int v5)]) hx hb dX4_reckonReadings_30 hl (by decide) rfl (fun ls hl => ?_)
      refine lv_iload_n hx hb dX4_reckonReadings_32 rfl (lv_at hl 4 rfl) ?_
      refine lv_iload hx hb dX4_reckonReadings_33 (lv_at hl 0 rfl) ?_
      refine lv_iadd hx hb dX4_reckonReadings_35 ?_
      refine lv_istore_n (lv' := [(3, .int (v3 + (Ireadings (v1.toNatClampNeg) v5.toNatClampNeg))), (6, .int (Ireadings (v1.toNatClampNeg) v5.toNatClampNeg)), (0, .ref (aI 0)), (1, .int v1), (2, .int v2), (4, .int v4), (5, .int v5)]) hx hb dX4_reckonReadings_36 rfl hl (by decide) rfl (fun ls hl => ?_)
      refine lv_iload hx hb dX4_reckonReadings_37 (lv_at hl 5 rfl) ?_
      refine lv_iload hx hb dX4_reckonReadings_39 (lv_at hl 1 rfl) ?_
      refine lv_iload hx hb dX4_reckonReadings_41 (lv_at hl 1 rfl) ?_
      refine lv_imul hx hb dX4_reckonReadings_43 ?_
      refine lv_iadd hx hb dX4_reckonReadings_44 ?_
      refine lv_istore (lv' := [(4, .int (v4 + ((Ireadings (v1.toNatClampNeg) v5.toNatClampNeg) * (Ireadings (v1.toNatClampNeg) v5.toNatClampNeg)))), (3, .int (v3 + (Ireadings (v1.toNatClampNeg) v5.toNatClampNeg))), (6, .int (Ireadings (v1.toNatClampNeg) v5.toNatClampNeg)), (0, .ref (aI 0)), (1, .int v1), (2, .int v2), (5, .int v5)]) hx hb dX4_reckonReadings_45 hl (by decide) rfl (fun ls hl => ?_)
      refine lv_iinc (v := v5 + 1) (lv' := [(5, .int (v5 + 1)), (4, .int (v4 + ((Ireadings (v1.toNatClampNeg) v5.toNatClampNeg) * (Ireadings (v1.toNatClampNeg) v5.toNatClampNeg)))), (3, .int (v3 + (Ireadings (v1.toNatClampNeg) v5.toNatClampNeg))), (6, .int (Ireadings (v1.toNatClampNeg) v5.toNatClampNeg)), (0, .ref (aI 0)), (1, .int v1), (2, .int v2)]) hx hb dX4_reckonReadings_47 hl (k := 6) rfl rfl (by decide) rfl (fun ls hl => ?_)
      refine lv_goto (tgt := 15) hx hb dX4_reckonReadings_50 (by decide) ?_
      exact ih _ _ _ _ _ _ h _ _ _ hP hD hS (lv_sub hl [4, 5, 6, 2, 1, 0] rfl)
  have BH_71 : ∀ (v2 : Int32) (v3 : Int32) (v4 : Int32) (s1 : Int32) (s2 : Int32) (Iestimates : Nat → Int32) (Ivariances : Nat → Int32), BX4_reckonReadings_71 Icounts Ireadings v1 v2 v3 v4 s1 s2 Iestimates Ivariances = some (RIestimates, RIvariances) → ∀ (H : Heap) (locs : List Loc) (ls : Array Slot), va_P D vwCl (wI k aI Iestimates Ivariances Isorts Iwidths Icounts Ireadings Ifirsts Iseconds Icovariances) H → va_D A (wI k aI Iestimates Ivariances Isorts Iwidths Icounts Ireadings Ifirsts Iseconds Icovariances) → va_S A s.heap H locs → lv_has ls 7 [(0, .ref (aI 0)), (1, .int v1), (2, .int v2), (3, .int v3), (4, .int v4)] → W p l e rmX4_reckonReadings s m args below meth c H locs 0 0 Q (F0 m 71 ls [.int s2, .int s1, .ref (aI 1)]) := by
    intro  v2 v3 v4 s1 s2 Iestimates Ivariances h H locs ls hP hD hS hl
    unfold BX4_reckonReadings_71 at h
    obtain ⟨hi6, h⟩ := gi_inv h
    refine va_iast hx hb hK hP hD hS 1 0 rfl rfl hi6 dX4_reckonReadings_71 (fun H locs hP hD hS => ?_)
    replace hP : va_P D vwCl (wI k aI (upd Iestimates (s1.toNatClampNeg) s2) Ivariances Isorts Iwidths Icounts Ireadings Ifirsts Iseconds Icovariances) H := hP
    replace hD : va_D A (wI k aI (upd Iestimates (s1.toNatClampNeg) s2) Ivariances Isorts Iwidths Icounts Ireadings Ifirsts Iseconds Icovariances) := hD
    refine lv_aload_n hx hb dX4_reckonReadings_72 rfl (lv_at hl 0 rfl) ?_
    refine va_get (D := D) (ci := 4) (v := .ref (aI 2)) (C := RX4) (T := TX4) (N := 9) hx hb hts iX4 hown hK hP 0 rfl rfl 1 (by decide) f15 (fun _ h9 => h9) rfl dX4_reckonReadings_73 ?_
    refine lv_iload_n hx hb dX4_reckonReadings_76 rfl (lv_at hl 1 rfl) ?_
    refine lv_iload_n hx hb dX4_reckonReadings_77 rfl (lv_at hl 2 rfl) ?_
    refine lv_iconst (v := 1) hx hb dX4_reckonReadings_78 (by decide) ?_
    refine lv_icmp_le (tgt := 101) hx hb dX4_reckonReadings_79 (by decide) (fun c7 => ?_) (fun c7 => ?_)
    · replace h := sf_t c7 h
      refine lv_iconst (v := 0) hx hb dX4_reckonReadings_101 (by decide) ?_
      obtain ⟨hi8, h⟩ := gi_inv h
      refine va_iast hx hb hK hP hD hS 2 0 rfl rfl hi8 dX4_reckonReadings_102 (fun H locs hP hD hS => ?_)
      replace hP : va_P D vwCl (wI k aI (upd Iestimates (s1.toNatClampNeg) s2) (upd Ivariances (v1.toNatClampNeg) 0) Isorts Iwidths Icounts Ireadings Ifirsts Iseconds Icovariances) H := hP
      replace hD : va_D A (wI k aI (upd Iestimates (s1.toNatClampNeg) s2) (upd Ivariances (v1.toNatClampNeg) 0) Isorts Iwidths Icounts Ireadings Ifirsts Iseconds Icovariances) := hD
      subst hQ
      cases h
      exact W.vret hx hb hr (fun t ht hW => ⟨⟨(), rfl, trivial, by rw [ht]; exact hP, va_K.moved hW.alike hK, hD⟩, hS.F ht⟩) hS.2.2 dX4_reckonReadings_103
    · replace h := sf_f c7 h
      refine lv_iload_n hx hb dX4_reckonReadings_82 rfl (lv_at hl 2 rfl) ?_
      refine lv_iload hx hb dX4_reckonReadings_83 (lv_at hl 4 rfl) ?_
      refine lv_imul hx hb dX4_reckonReadings_85 ?_
      refine lv_iload_n hx hb dX4_reckonReadings_86 rfl (lv_at hl 3 rfl) ?_
      refine lv_iload_n hx hb dX4_reckonReadings_87 rfl (lv_at hl 3 rfl) ?_
      refine lv_imul hx hb dX4_reckonReadings_88 ?_
      refine lv_isub hx hb dX4_reckonReadings_89 ?_
      refine lv_iload_n hx hb dX4_reckonReadings_90 rfl (lv_at hl 2 rfl) ?_
      refine lv_iload_n hx hb dX4_reckonReadings_91 rfl (lv_at hl 2 rfl) ?_
      refine lv_imul hx hb dX4_reckonReadings_92 ?_
      refine lv_iload_n hx hb dX4_reckonReadings_93 rfl (lv_at hl 2 rfl) ?_
      refine lv_iconst (v := 1) hx hb dX4_reckonReadings_94 (by decide) ?_
      refine lv_isub hx hb dX4_reckonReadings_95 ?_
      refine lv_imul hx hb dX4_reckonReadings_96 ?_
      obtain ⟨hz9, h⟩ := gz_inv h
      refine lv_idiv hx hb dX4_reckonReadings_97 hz9 ?_
      refine lv_goto (tgt := 102) hx hb dX4_reckonReadings_98 (by decide) ?_
      obtain ⟨hi10, h⟩ := gi_inv h
      refine va_iast hx hb hK hP hD hS 2 0 rfl rfl hi10 dX4_reckonReadings_102 (fun H locs hP hD hS => ?_)
      replace hP : va_P D vwCl (wI k aI (upd Iestimates (s1.toNatClampNeg) s2) (upd Ivariances (v1.toNatClampNeg) (((v2 * v4) - (v3 * v3)) / ((v2 * v2) * (v2 - 1)))) Isorts Iwidths Icounts Ireadings Ifirsts Iseconds Icovariances) H := hP
      replace hD : va_D A (wI k aI (upd Iestimates (s1.toNatClampNeg) s2) (upd Ivariances (v1.toNatClampNeg) (((v2 * v4) - (v3 * v3)) / ((v2 * v2) * (v2 - 1)))) Isorts Iwidths Icounts Ireadings Ifirsts Iseconds Icovariances) := hD
      subst hQ
      cases h
      exact W.vret hx hb hr (fun t ht hW => ⟨⟨(), rfl, trivial, by rw [ht]; exact hP, va_K.moved hW.alike hK, hD⟩, hS.F ht⟩) hS.2.2 dX4_reckonReadings_103
  suffices main : ∀ (H : Heap) (locs : List Loc) (ls : Array Slot), va_P D vwCl (wI k aI Iestimates Ivariances Isorts Iwidths Icounts Ireadings Ifirsts Iseconds Icovariances) H → va_D A (wI k aI Iestimates Ivariances Isorts Iwidths Icounts Ireadings Ifirsts Iseconds Icovariances) → va_S A s.heap H locs → lv_has ls 7 [(0, .ref (aI 0)), (1, .int v1)] → W p l e rmX4_reckonReadings s m args below meth c H locs 0 0 Q (F0 m 0 ls []) from main _ _ _ hP hD hS hl
  clear hP hD hS hl ls hAe
  intro H locs ls hP hD hS hl
  refine lv_aload_n hx hb dX4_reckonReadings_0 rfl (lv_at hl 0 rfl) ?_
  refine va_get (D := D) (ci := 4) (v := .ref (aI 5)) (C := RX4) (T := TX4) (N := 9) hx hb hts iX4 hown hK hP 0 rfl rfl 4 (by decide) f24 (fun _ h9 => h9) rfl dX4_reckonReadings_1 ?_
  refine lv_iload_n hx hb dX4_reckonReadings_4 rfl (lv_at hl 1 rfl) ?_
  obtain ⟨hi1, h⟩ := gi_inv h
  refine va_iald hx hb hK hP 5 0 rfl rfl hi1 dX4_reckonReadings_5 ?_
  refine lv_istore_n (lv' := [(2, .int (Icounts v1.toNatClampNeg)), (0, .ref (aI 0)), (1, .int v1)]) hx hb dX4_reckonReadings_6 rfl hl (by decide) rfl (fun ls hl => ?_)
  refine lv_iconst (v := 0) hx hb dX4_reckonReadings_7 (by decide) ?_
  refine lv_istore_n (lv' := [(3, .int 0), (2, .int (Icounts v1.toNatClampNeg)), (0, .ref (aI 0)), (1, .int v1)]) hx hb dX4_reckonReadings_8 rfl hl (by decide) rfl (fun ls hl => ?_)
  refine lv_iconst (v := 0) hx hb dX4_reckonReadings_9 (by decide) ?_
  refine lv_istore (lv' := [(4, .int 0), (3, .int 0), (2, .int (Icounts v1.toNatClampNeg)), (0, .ref (aI 0)), (1, .int v1)]) hx hb dX4_reckonReadings_10 hl (by decide) rfl (fun ls hl => ?_)
  refine lv_iconst (v := 0) hx hb dX4_reckonReadings_12 (by decide) ?_
  refine lv_istore (lv' := [(5, .int 0), (4, .int 0), (3, .int 0), (2, .int (Icounts v1.toNatClampNeg)), (0, .ref (aI 0)), (1, .int v1)]) hx hb dX4_reckonReadings_13 hl (by decide) rfl (fun ls hl => ?_)
  refine LH_15 _ (fun v2 v3 v4 Iestimates Ivariances h H locs ls hP hD hS hl => ?_) _ _ _ _ _ _ _ h _ _ _ hP hD hS (lv_sub hl [4, 5, 3, 2, 1, 0] rfl)
  · skip
    refine lv_aload_n hx hb dX4_reckonReadings_53 rfl (lv_at hl 0 rfl) ?_
    refine va_get (D := D) (ci := 4) (v := .ref (aI 1)) (C := RX4) (T := TX4) (N := 9) hx hb hts iX4 hown hK hP 0 rfl rfl 0 (by decide) f9 (fun _ h9 => h9) rfl dX4_reckonReadings_54 ?_
    refine lv_iload_n hx hb dX4_reckonReadings_57 rfl (lv_at hl 1 rfl) ?_
    refine lv_iload_n hx hb dX4_reckonReadings_58 rfl (lv_at hl 2 rfl) ?_
    refine lv_if_le (tgt := 70) hx hb dX4_reckonReadings_59 (by decide) (fun c5 => ?_) (fun c5 => ?_)
    · replace h := sf_t c5 h
      refine lv_iconst (v := 0) hx hb dX4_reckonReadings_70 (by decide) ?_
      exact BH_71  _ _ _ _ _ _ _ h _ _ _ hP hD hS (lv_sub hl [0, 1, 2, 3, 4] rfl)
    · replace h := sf_f c5 h
      refine lv_iload_n hx hb dX4_reckonReadings_62 rfl (lv_at hl 3 rfl) ?_
      refine lv_iload_n hx hb dX4_reckonReadings_63 rfl (lv_at hl 2 rfl) ?_
      obtain ⟨r11, hc11, h⟩ := bnd1_inv h
      have hPc := hP.sub (ws' := ([] : va_W)) [] rfl
      have hDc := hD.sub (ws' := ([] : va_W)) [] rfl rfl
      have hFc := va_free (wc := ([] : va_W)) hD hS hA [] rfl
      refine xc_i (va_runS (As := [.int v3, .int v2]) (rest := [.int v1, .ref (aI 1)]) ⟨hx, hb, hml, hown, hts⟩ (met_J9_floorDiv_7cf53 l D k H.size v3 v2 r11 hc11) (va_cwS 2 hts gX4_reckonReadings_J9_floorDiv_7cf53 rfl rfl rfl (by decide +kernel) ⟨Nat.le_of_ble_eq_true rfl, Nat.le_of_ble_eq_true rfl⟩) ⟨pw_blind, pw_start hPc hK hDc⟩ rfl rfl hl.1 rfl (lv_room (Nat.le_of_ble_eq_true rfl)) dX4_reckonReadings_64 ⟨Nat.zero_le _, Nat.zero_le _⟩) hS hFc (fun H1 locs hP1 hD1 hk1 hS => ?_)
      obtain ⟨hP, hD⟩ := vj (ws' := (wI k aI Iestimates Ivariances Isorts Iwidths Icounts Ireadings Ifirsts Iseconds Icovariances)) (w1 := ([] : va_W)) hP hD [] [0, 1, 2, 3, 4, 5, 6, 7, 8, 9, 10, 11, 12, 13, 14, 15, 16, 17, 18, 19, 20, 21] [0, 1, 2, 3, 4, 5, 6, 7, 8, 9, 10, 11, 12, 13, 14, 15, 16, 17, 18, 19, 20, 21] rfl rfl rfl rfl rfl hk1 hFc hP1 hD1
      clear hP1 hD1 hk1 hFc
      generalize H1 = H at hP hS ⊢
      refine lv_goto (tgt := 71) hx hb dX4_reckonReadings_67 (by decide) ?_
      exact BH_71  _ _ _ _ _ _ _ h _ _ _ hP hD hS (lv_sub hl [0, 1, 2, 3, 4] rfl)
