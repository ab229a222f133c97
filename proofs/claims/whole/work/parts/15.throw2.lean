abbrev rmTX6_disagrees : Room := { frames := 7, cells := 1, slots := 6, locals := 140 }
set_option maxHeartbeats 4000000 in
set_option maxRecDepth 100000 in
theorem thr_X6_disagrees_0 (l : Launch) (hst : l.stackTraces = false) (D : va_G) (k : Nat → ClassId) (aU : Nat → Nat) (xI xL xS xB xV xC : Nat) (sz : Nat) (Uformulas : Nat → Option Nat) (Udrawn : Nat → Int32) (Umodels : Int32) (v1 : Int32)  (k1 : ¬ vp_in v1 8 ∨ Uformulas v1.toNatClampNeg = none) : vx_Met l yX6_disagrees wsX6_disagrees rmTX6_disagrees (va_Pc [.ref (aU 0), .int v1] (PreX D k (wU k aU xI xL xS xB xV xC Uformulas Udrawn Umodels) sz)) NQ (XQ D k (wU k aU xI xL xS xB xV xC Uformulas Udrawn Umodels) sz exI) 1 6 (va_A (wU k aU xI xL xS xB xV xC Uformulas Udrawn Umodels) sz) := by
  refine vx_ofW (cc := cX6_disagrees) (maxL := 2) (ret := (some .int)) (by decide) rfl ?_
  intro p e s m args below meth c s₁ B hml htab hv
  obtain ⟨hav, ⟨hsz, hP, hK, hD0⟩, hXP⟩ := hv
  have hx := B.exec
  have hb := B.bytes
  have hts := atoms_spec (ws := wsX6_disagrees) B.pre
  have hown : s.vm.findClass RX6 = some m.cls := findClass_of_methodNamed B.named
  have hlocks := B.notSynchronized
  subst hsz
  have hD := hD0.self (sz := s.heap.size)
  clear hD0
  obtain ⟨A, hAe⟩ : ∃ A, va_A (wU k aU xI xL xS xB xV xC Uformulas Udrawn Umodels) s.heap.size = A := ⟨_, rfl⟩
  rw [hAe] at hD hXP
  have hA : ∀ q : Nat, s.heap.size ≤ q → A q := fun q h => by rw [← hAe]; exact Or.inr h
  have hS : va_S A s.heap s.heap [] := va_S.rf
  have hl := lv_entry ([.ref (aU 0), .int v1]) (n := 2) (Nat.le_of_ble_eq_true rfl)
  rw [show entryFrame m args 2 = entryFrame m ([.ref (aU 0), .int v1] : List Value).toArray 2 from by rw [hav], lg_entry_eq]
  generalize (lg_sl ([.ref (aU 0), .int v1]) ++ List.replicate (2 - (lg_sl ([.ref (aU 0), .int v1])).length) Slot.unset).toArray = ls at hl ⊢
  replace hl : lv_has ls 2 [(0, .ref (aU 0)), (1, .int v1)] := hl
  show W p l e rmTX6_disagrees s m args below meth c s.heap [] 0 0 _ (F0 m 0 ls [])
  suffices main : ∀ (H : Heap) (locs : List Loc) (ls : Array Slot), va_P D vwCl (wU k aU xI xL xS xB xV xC Uformulas Udrawn Umodels) H → va_D A (wU k aU xI xL xS xB xV xC Uformulas Udrawn Umodels) → va_S A s.heap H locs → lv_has ls 2 [(0, .ref (aU 0)), (1, .int v1)] → W p l e rmTX6_disagrees s m args below meth c H locs 0 0 _ (F0 m 0 ls []) from main _ _ _ hP hD hS hl
  clear hP hD hS hl ls
  intro H locs ls hP hD hS hl
  refine lv_aload_n hx hb dX6_disagrees_0 rfl (lv_at hl 0 rfl) ?_
  refine lv_iload_n hx hb dX6_disagrees_1 rfl (lv_at hl 1 rfl) ?_
  have hFc := va_free (wc := (wU k aU xI xL xS xB xV xC Uformulas Udrawn Umodels)) hD hS hA [0, 1, 2] rfl
  exact xt_v (vx_runV (As := [.int v1]) (rest := []) ⟨hx, hb, hml, hown, hts⟩ (thr_X6_formulaOf l hst D k aU xI xL xS xB xV xC H.size Uformulas Udrawn Umodels v1 k1) (cwV 1 hts gX6_disagrees_X6_formulaOf rfl rfl rfl (by decide +kernel) ⟨Nat.le_of_ble_eq_true rfl, Nat.le_of_ble_eq_true rfl⟩) ⟨px_blind, va_recv hK hP (ci := 6) (q0 := 0) rfl rfl, px_start hP hK hD (XP.keep hXP hS.2.1) hFc⟩ rfl rfl hl.1 rfl (lv_room (Nat.le_of_ble_eq_true rfl)) dX6_disagrees_2 ⟨Nat.le_refl _, Nat.le_refl _⟩) hAe hP hK hD hS hFc (fun H1 hP1 hD1 hk1 => vj_all hFc hP1 hD1) htab hlocks
abbrev rmTX6_unitOf : Room := { frames := 7, cells := 1, slots := 6, locals := 140 }
set_option maxHeartbeats 4000000 in
set_option maxRecDepth 100000 in
theorem thr_X6_unitOf_0 (l : Launch) (hst : l.stackTraces = false) (D : va_G) (k : Nat → ClassId) (aU : Nat → Nat) (xI xL xS xB xV xC : Nat) (sz : Nat) (Uformulas : Nat → Option Nat) (Udrawn : Nat → Int32) (Umodels : Int32) (v1 : Int32) (v2 : Int32)  (k1 : ¬ vp_in v1 8 ∨ Uformulas v1.toNatClampNeg = none) : vx_Met l yX6_unitOf wsX6_unitOf rmTX6_unitOf (va_Pc [.ref (aU 0), .int v1, .int v2] (PreX D k (wU k aU xI xL xS xB xV xC Uformulas Udrawn Umodels) sz)) NQ (XQ D k (wU k aU xI xL xS xB xV xC Uformulas Udrawn Umodels) sz exI) 1 6 (va_A (wU k aU xI xL xS xB xV xC Uformulas Udrawn Umodels) sz) := by
  refine vx_ofW (cc := cX6_unitOf) (maxL := 3) (ret := (some .int)) (by decide) rfl ?_
  intro p e s m args below meth c s₁ B hml htab hv
  obtain ⟨hav, ⟨hsz, hP, hK, hD0⟩, hXP⟩ := hv
  have hx := B.exec
  have hb := B.bytes
  have hts := atoms_spec (ws := wsX6_unitOf) B.pre
  have hown : s.vm.findClass RX6 = some m.cls := findClass_of_methodNamed B.named
  have hlocks := B.notSynchronized
  subst hsz
  have hD := hD0.self (sz := s.heap.size)
  clear hD0
  obtain ⟨A, hAe⟩ : ∃ A, va_A (wU k aU xI xL xS xB xV xC Uformulas Udrawn Umodels) s.heap.size = A := ⟨_, rfl⟩
  rw [hAe] at hD hXP
  have hA : ∀ q : Nat, s.heap.size ≤ q → A q := fun q h => by rw [← hAe]; exact Or.inr h
  have hS : va_S A s.heap s.heap [] := va_S.rf
  have hl := lv_entry ([.ref (aU 0), .int v1, .int v2]) (n := 3) (Nat.le_of_ble_eq_true rfl)
  rw [show entryFrame m args 3 = entryFrame m ([.ref (aU 0), .int v1, .int v2] : List Value).toArray 3 from by rw [hav], lg_entry_eq]
  generalize (lg_sl ([.ref (aU 0), .int v1, .int v2]) ++ List.replicate (3 - (lg_sl ([.ref (aU 0), .int v1, .int v2])).length) Slot.unset).toArray = ls at hl ⊢
  replace hl : lv_has ls 3 [(0, .ref (aU 0)), (1, .int v1), (2, .int v2)] := hl
  show W p l e rmTX6_unitOf s m args below meth c s.heap [] 0 0 _ (F0 m 0 ls [])
  suffices main : ∀ (H : Heap) (locs : List Loc) (ls : Array Slot), va_P D vwCl (wU k aU xI xL xS xB xV xC Uformulas Udrawn Umodels) H → va_D A (wU k aU xI xL xS xB xV xC Uformulas Udrawn Umodels) → va_S A s.heap H locs → lv_has ls 3 [(0, .ref (aU 0)), (1, .int v1), (2, .int v2)] → W p l e rmTX6_unitOf s m args below meth c H locs 0 0 _ (F0 m 0 ls []) from main _ _ _ hP hD hS hl
  clear hP hD hS hl ls
  intro H locs ls hP hD hS hl
  refine lv_aload_n hx hb dX6_unitOf_0 rfl (lv_at hl 0 rfl) ?_
  refine lv_iload_n hx hb dX6_unitOf_1 rfl (lv_at hl 1 rfl) ?_
  have hFc := va_free (wc := (wU k aU xI xL xS xB xV xC Uformulas Udrawn Umodels)) hD hS hA [0, 1, 2] rfl
  exact xt_v (vx_runV (As := [.int v1]) (rest := []) ⟨hx, hb, hml, hown, hts⟩ (thr_X6_formulaOf l hst D k aU xI xL xS xB xV xC H.size Uformulas Udrawn Umodels v1 k1) (cwV 1 hts gX6_unitOf_X6_formulaOf rfl rfl rfl (by decide +kernel) ⟨Nat.le_of_ble_eq_true rfl, Nat.le_of_ble_eq_true rfl⟩) ⟨px_blind, va_recv hK hP (ci := 6) (q0 := 0) rfl rfl, px_start hP hK hD (XP.keep hXP hS.2.1) hFc⟩ rfl rfl hl.1 rfl (lv_room (Nat.le_of_ble_eq_true rfl)) dX6_unitOf_2 ⟨Nat.le_refl _, Nat.le_refl _⟩) hAe hP hK hD hS hFc (fun H1 hP1 hD1 hk1 => vj_all hFc hP1 hD1) htab hlocks
abbrev rmTX6_value : Room := { frames := 7, cells := 1, slots := 6, locals := 140 }
set_option maxHeartbeats 4000000 in
set_option maxRecDepth 100000 in
theorem thr_X6_value_0 (l : Launch) (hst : l.stackTraces = false) (D : va_G) (k : Nat → ClassId) (aU : Nat → Nat) (xI xL xS xB xV xC : Nat) (sz : Nat) (Uformulas : Nat → Option Nat) (Udrawn : Nat → Int32) (Umodels : Int32) (v1 : Int32)  (k1 : ¬ vp_in v1 8 ∨ Uformulas v1.toNatClampNeg = none) : vx_Met l yX6_value wsX6_value rmTX6_value (va_Pc [.ref (aU 0), .int v1] (PreX D k (wU k aU xI xL xS xB xV xC Uformulas Udrawn Umodels) sz)) NQ (XQ D k (wU k aU xI xL xS xB xV xC Uformulas Udrawn Umodels) sz exI) 1 6 (va_A (wU k aU xI xL xS xB xV xC Uformulas Udrawn Umodels) sz) := by
  refine vx_ofW (cc := cX6_value) (maxL := 2) (ret := (some .long)) (by decide) rfl ?_
  intro p e s m args below meth c s₁ B hml htab hv
  obtain ⟨hav, ⟨hsz, hP, hK, hD0⟩, hXP⟩ := hv
  have hx := B.exec
  have hb := B.bytes
  have hts := atoms_spec (ws := wsX6_value) B.pre
  have hown : s.vm.findClass RX6 = some m.cls := findClass_of_methodNamed B.named
  have hlocks := B.notSynchronized
  subst hsz
  have hD := hD0.self (sz := s.heap.size)
  clear hD0
  obtain ⟨A, hAe⟩ : ∃ A, va_A (wU k aU xI xL xS xB xV xC Uformulas Udrawn Umodels) s.heap.size = A := ⟨_, rfl⟩
  rw [hAe] at hD hXP
  have hA : ∀ q : Nat, s.heap.size ≤ q → A q := fun q h => by rw [← hAe]; exact Or.inr h
  have hS : va_S A s.heap s.heap [] := va_S.rf
  have hl := lv_entry ([.ref (aU 0), .int v1]) (n := 2) (Nat.le_of_ble_eq_true rfl)
  rw [show entryFrame m args 2 = entryFrame m ([.ref (aU 0), .int v1] : List Value).toArray 2 from by rw [hav], lg_entry_eq]
  generalize (lg_sl ([.ref (aU 0), .int v1]) ++ List.replicate (2 - (lg_sl ([.ref (aU 0), .int v1])).length) Slot.unset).toArray = ls at hl ⊢
  replace hl : lv_has ls 2 [(0, .ref (aU 0)), (1, .int v1)] := hl
  show W p l e rmTX6_value s m args below meth c s.heap [] 0 0 _ (F0 m 0 ls [])
  suffices main : ∀ (H : Heap) (locs : List Loc) (ls : Array Slot), va_P D vwCl (wU k aU xI xL xS xB xV xC Uformulas Udrawn Umodels) H → va_D A (wU k aU xI xL xS xB xV xC Uformulas Udrawn Umodels) → va_S A s.heap H locs → lv_has ls 2 [(0, .ref (aU 0)), (1, .int v1)] → W p l e rmTX6_value s m args below meth c H locs 0 0 _ (F0 m 0 ls []) from main _ _ _ hP hD hS hl
  clear hP hD hS hl ls
  intro H locs ls hP hD hS hl
  refine lv_aload_n hx hb dX6_value_0 rfl (lv_at hl 0 rfl) ?_
  refine lv_iload_n hx hb dX6_value_1 rfl (lv_at hl 1 rfl) ?_
  have hFc := va_free (wc := (wU k aU xI xL xS xB xV xC Uformulas Udrawn Umodels)) hD hS hA [0, 1, 2] rfl
  exact xt_v (vx_runV (As := [.int v1]) (rest := []) ⟨hx, hb, hml, hown, hts⟩ (thr_X6_formulaOf l hst D k aU xI xL xS xB xV xC H.size Uformulas Udrawn Umodels v1 k1) (cwV 1 hts gX6_value_X6_formulaOf rfl rfl rfl (by decide +kernel) ⟨Nat.le_of_ble_eq_true rfl, Nat.le_of_ble_eq_true rfl⟩) ⟨px_blind, va_recv hK hP (ci := 6) (q0 := 0) rfl rfl, px_start hP hK hD (XP.keep hXP hS.2.1) hFc⟩ rfl rfl hl.1 rfl (lv_room (Nat.le_of_ble_eq_true rfl)) dX6_value_2 ⟨Nat.le_refl _, Nat.le_refl _⟩) hAe hP hK hD hS hFc (fun H1 hP1 hD1 hk1 => vj_all hFc hP1 hD1) htab hlocks
abbrev rmTX6_sensitivity : Room := { frames := 7, cells := 1, slots := 6, locals := 140 }
set_option maxHeartbeats 4000000 in
set_option maxRecDepth 100000 in
theorem thr_X6_sensitivity_0 (l : Launch) (hst : l.stackTraces = false) (D : va_G) (k : Nat → ClassId) (aU : Nat → Nat) (xI xL xS xB xV xC : Nat) (sz : Nat) (Uformulas : Nat → Option Nat) (Udrawn : Nat → Int32) (Umodels : Int32) (v1 : Int32) (v2 : Int32)  (k1 : ¬ vp_in v1 8 ∨ Uformulas v1.toNatClampNeg = none) : vx_Met l yX6_sensitivity wsX6_sensitivity rmTX6_sensitivity (va_Pc [.ref (aU 0), .int v1, .int v2] (PreX D k (wU k aU xI xL xS xB xV xC Uformulas Udrawn Umodels) sz)) NQ (XQ D k (wU k aU xI xL xS xB xV xC Uformulas Udrawn Umodels) sz exI) 1 6 (va_A (wU k aU xI xL xS xB xV xC Uformulas Udrawn Umodels) sz) := by
  refine vx_ofW (cc := cX6_sensitivity) (maxL := 4) (ret := (some .long)) (by decide) rfl ?_
  intro p e s m args below meth c s₁ B hml htab hv
  obtain ⟨hav, ⟨hsz, hP, hK, hD0⟩, hXP⟩ := hv
  have hx := B.exec
  have hb := B.bytes
  have hts := atoms_spec (ws := wsX6_sensitivity) B.pre
  have hown : s.vm.findClass RX6 = some m.cls := findClass_of_methodNamed B.named
  have hlocks := B.notSynchronized
  subst hsz
  have hD := hD0.self (sz := s.heap.size)
  clear hD0
  obtain ⟨A, hAe⟩ : ∃ A, va_A (wU k aU xI xL xS xB xV xC Uformulas Udrawn Umodels) s.heap.size = A := ⟨_, rfl⟩
  rw [hAe] at hD hXP
  have hA : ∀ q : Nat, s.heap.size ≤ q → A q := fun q h => by rw [← hAe]; exact Or.inr h
  have hS : va_S A s.heap s.heap [] := va_S.rf
  have hl := lv_entry ([.ref (aU 0), .int v1, .int v2]) (n := 4) (Nat.le_of_ble_eq_true rfl)
  rw [show entryFrame m args 4 = entryFrame m ([.ref (aU 0), .int v1, .int v2] : List Value).toArray 4 from by rw [hav], lg_entry_eq]
  generalize (lg_sl ([.ref (aU 0), .int v1, .int v2]) ++ List.replicate (4 - (lg_sl ([.ref (aU 0), .int v1, .int v2])).length) Slot.unset).toArray = ls at hl ⊢
  replace hl : lv_has ls 4 [(0, .ref (aU 0)), (1, .int v1), (2, .int v2)] := hl
  show W p l e rmTX6_sensitivity s m args below meth c s.heap [] 0 0 _ (F0 m 0 ls [])
  suffices main : ∀ (H : Heap) (locs : List Loc) (ls : Array Slot), va_P D vwCl (wU k aU xI xL xS xB xV xC Uformulas Udrawn Umodels) H → va_D A (wU k aU xI xL xS xB xV xC Uformulas Udrawn Umodels) → va_S A s.heap H locs → lv_has ls 4 [(0, .ref (aU 0)), (1, .int v1), (2, .int v2)] → W p l e rmTX6_sensitivity s m args below meth c H locs 0 0 _ (F0 m 0 ls []) from main _ _ _ hP hD hS hl
  clear hP hD hS hl ls
  intro H locs ls hP hD hS hl
  refine lv_aload_n hx hb dX6_sensitivity_0 rfl (lv_at hl 0 rfl) ?_
  refine lv_iload_n hx hb dX6_sensitivity_1 rfl (lv_at hl 1 rfl) ?_
  have hFc := va_free (wc := (wU k aU xI xL xS xB xV xC Uformulas Udrawn Umodels)) hD hS hA [0, 1, 2] rfl
  exact xt_v (vx_runV (As := [.int v1]) (rest := []) ⟨hx, hb, hml, hown, hts⟩ (thr_X6_formulaOf l hst D k aU xI xL xS xB xV xC H.size Uformulas Udrawn Umodels v1 k1) (cwV 1 hts gX6_sensitivity_X6_formulaOf rfl rfl rfl (by decide +kernel) ⟨Nat.le_of_ble_eq_true rfl, Nat.le_of_ble_eq_true rfl⟩) ⟨px_blind, va_recv hK hP (ci := 6) (q0 := 0) rfl rfl, px_start hP hK hD (XP.keep hXP hS.2.1) hFc⟩ rfl rfl hl.1 rfl (lv_room (Nat.le_of_ble_eq_true rfl)) dX6_sensitivity_2 ⟨Nat.le_refl _, Nat.le_refl _⟩) hAe hP hK hD hS hFc (fun H1 hP1 hD1 hk1 => vj_all hFc hP1 hD1) htab hlocks
set_option maxHeartbeats 4000000 in
set_option maxRecDepth 100000 in
theorem thr_X6_sensitivity_1 (l : Launch) (hst : l.stackTraces = false) (D : va_G) (k : Nat → ClassId) (aU : Nat → Nat) (xI xL xS xB xV xC : Nat) (sz : Nat) (Uformulas : Nat → Option Nat) (Udrawn : Nat → Int32) (Umodels : Int32) (v1 : Int32) (v2 : Int32) (pF : Nat) (k2 : vp_in v1 8 ∧ Uformulas v1.toNatClampNeg = some pF) (k3 : v2 < 0 ∨ ¬ v2 < 6) : vx_Met l yX6_sensitivity wsX6_sensitivity rmTX6_sensitivity (va_Pc [.ref (aU 0), .int v1, .int v2] (PreX D k (wU k aU xI xL xS xB xV xC Uformulas Udrawn Umodels) sz)) NQ (XQ D k (wU k aU xI xL xS xB xV xC Uformulas Udrawn Umodels) sz exI) 1 6 (va_A (wU k aU xI xL xS xB xV xC Uformulas Udrawn Umodels) sz) := by
  refine vx_ofW (cc := cX6_sensitivity) (maxL := 4) (ret := (some .long)) (by decide) rfl ?_
  intro p e s m args below meth c s₁ B hml htab hv
  obtain ⟨hav, ⟨hsz, hP, hK, hD0⟩, hXP⟩ := hv
  have hx := B.exec
  have hb := B.bytes
  have hts := atoms_spec (ws := wsX6_sensitivity) B.pre
  have hown : s.vm.findClass RX6 = some m.cls := findClass_of_methodNamed B.named
  have hlocks := B.notSynchronized
  subst hsz
  have hD := hD0.self (sz := s.heap.size)
  clear hD0
  obtain ⟨A, hAe⟩ : ∃ A, va_A (wU k aU xI xL xS xB xV xC Uformulas Udrawn Umodels) s.heap.size = A := ⟨_, rfl⟩
  rw [hAe] at hD hXP
  have hA : ∀ q : Nat, s.heap.size ≤ q → A q := fun q h => by rw [← hAe]; exact Or.inr h
  have hS : va_S A s.heap s.heap [] := va_S.rf
  have hl := lv_entry ([.ref (aU 0), .int v1, .int v2]) (n := 4) (Nat.le_of_ble_eq_true rfl)
  rw [show entryFrame m args 4 = entryFrame m ([.ref (aU 0), .int v1, .int v2] : List Value).toArray 4 from by rw [hav], lg_entry_eq]
  generalize (lg_sl ([.ref (aU 0), .int v1, .int v2]) ++ List.replicate (4 - (lg_sl ([.ref (aU 0), .int v1, .int v2])).length) Slot.unset).toArray = ls at hl ⊢
  replace hl : lv_has ls 4 [(0, .ref (aU 0)), (1, .int v1), (2, .int v2)] := hl
  show W p l e rmTX6_sensitivity s m args below meth c s.heap [] 0 0 _ (F0 m 0 ls [])
  suffices main : ∀ (H : Heap) (locs : List Loc) (ls : Array Slot), va_P D vwCl (wU k aU xI xL xS xB xV xC Uformulas Udrawn Umodels) H → va_D A (wU k aU xI xL xS xB xV xC Uformulas Udrawn Umodels) → va_S A s.heap H locs → lv_has ls 4 [(0, .ref (aU 0)), (1, .int v1), (2, .int v2)] → W p l e rmTX6_sensitivity s m args below meth c H locs 0 0 _ (F0 m 0 ls []) from main _ _ _ hP hD hS hl
  clear hP hD hS hl ls
  intro H locs ls hP hD hS hl
  refine lv_aload_n hx hb dX6_sensitivity_0 rfl (lv_at hl 0 rfl) ?_
  refine lv_iload_n hx hb dX6_sensitivity_1 rfl (lv_at hl 1 rfl) ?_
  have hFc := va_free (wc := (wU k aU xI xL xS xB xV xC Uformulas Udrawn Umodels)) hD hS hA [0, 1, 2] rfl
  refine xc_r (va_runV (As := [.int v1]) (rest := []) ⟨hx, hb, hml, hown, hts⟩ (met_X6_formulaOf l D k aU xI xL xS xB xV xC H.size Uformulas Udrawn Umodels v1 pF k2) (cwV 1 hts gX6_sensitivity_X6_formulaOf rfl rfl rfl (by decide +kernel) ⟨Nat.le_of_ble_eq_true rfl, Nat.le_of_ble_eq_true rfl⟩) ⟨pw_blind, va_recv hK hP (ci := 6) (q0 := 0) rfl rfl, pw_start hP hK hD⟩ rfl rfl hl.1 rfl (lv_room (Nat.le_of_ble_eq_true rfl)) dX6_sensitivity_2 ⟨Nat.zero_le _, Nat.zero_le _⟩) hS hFc (fun H1 locs hP1 hD1 hk1 hS => ?_)
  obtain ⟨hP, hD⟩ := vj_all hFc hP1 hD1
  clear hP1 hD1 hk1 hFc
  generalize H1 = H at hP hS ⊢
  refine lv_astore_n (lv' := [(3, .ref pF), (0, .ref (aU 0)), (1, .int v1), (2, .int v2)]) hx hb dX6_sensitivity_5 rfl hl (by decide) rfl (fun ls hl => ?_)
  refine lv_iload_n hx hb dX6_sensitivity_6 rfl (lv_at hl 3 rfl) ?_
  have hPc := hP.sub (ws' := ([] : va_W)) [] rfl
  have hDc := hD.sub (ws' := ([] : va_W)) [] rfl rfl
  have hFc := va_free (wc := ([] : va_W)) hD hS hA [] rfl
  exact xt_v (vx_runS (As := [.int v2]) (rest := []) ⟨hx, hb, hml, hown, hts⟩ (thr_X6_checkInput l hst D k H.size v2 k3) (va_cwS 1 hts gX6_sensitivity_X6_checkInput rfl rfl rfl (by decide +kernel) ⟨Nat.le_of_ble_eq_true rfl, Nat.le_of_ble_eq_true rfl⟩) ⟨px_blind, px_start hPc hK hDc (XP.keep hXP hS.2.1) hFc⟩ rfl rfl hl.1 rfl (lv_room (Nat.le_of_ble_eq_true rfl)) dX6_sensitivity_7 ⟨Nat.le_refl _, Nat.le_refl _⟩) hAe hP hK hD hS hFc (fun H1 hP1 hD1 hk1 => vk hP hD [] rfl hk1 hP1) htab hlocks
abbrev rmTX6_sensitivityAnew : Room := { frames := 7, cells := 1, slots := 6, locals := 140 }
set_option maxHeartbeats 4000000 in
set_option maxRecDepth 100000 in
theorem thr_X6_sensitivityAnew_0 (l : Launch) (hst : l.stackTraces = false) (D : va_G) (k : Nat → ClassId) (aU : Nat → Nat) (xI xL xS xB xV xC : Nat) (sz : Nat) (Uformulas : Nat → Option Nat) (Udrawn : Nat → Int32) (Umodels : Int32) (v1 : Int32) (v2 : Int32)  (k1 : ¬ vp_in v1 8 ∨ Uformulas v1.toNatClampNeg = none) : vx_Met l yX6_sensitivityAnew wsX6_sensitivityAnew rmTX6_sensitivityAnew (va_Pc [.ref (aU 0), .int v1, .int v2] (PreX D k (wU k aU xI xL xS xB xV xC Uformulas Udrawn Umodels) sz)) NQ (XQ D k (wU k aU xI xL xS xB xV xC Uformulas Udrawn Umodels) sz exI) 1 6 (va_A (wU k aU xI xL xS xB xV xC Uformulas Udrawn Umodels) sz) := by
  refine vx_ofW (cc := cX6_sensitivityAnew) (maxL := 4) (ret := (some .long)) (by decide) rfl ?_
  intro p e s m args below meth c s₁ B hml htab hv
  obtain ⟨hav, ⟨hsz, hP, hK, hD0⟩, hXP⟩ := hv
  have hx := B.exec
  have hb := B.bytes
  have hts := atoms_spec (ws := wsX6_sensitivityAnew) B.pre
  have hown : s.vm.findClass RX6 = some m.cls := findClass_of_methodNamed B.named
  have hlocks := B.notSynchronized
  subst hsz
  have hD := hD0.self (sz := s.heap.size)
  clear hD0
  obtain ⟨A, hAe⟩ : ∃ A, va_A (wU k aU xI xL xS xB xV xC Uformulas Udrawn Umodels) s.heap.size = A := ⟨_, rfl⟩
  rw [hAe] at hD hXP
  have hA : ∀ q : Nat, s.heap.size ≤ q → A q := fun q h => by rw [← hAe]; exact Or.inr h
  have hS : va_S A s.heap s.heap [] := va_S.rf
  have hl := lv_entry ([.ref (aU 0), .int v1, .int v2]) (n := 4) (Nat.le_of_ble_eq_true rfl)
  rw [show entryFrame m args 4 = entryFrame m ([.ref (aU 0), .int v1, .int v2] : List Value).toArray 4 from by rw [hav], lg_entry_eq]
  generalize (lg_sl ([.ref (aU 0), .int v1, .int v2]) ++ List.replicate (4 - (lg_sl ([.ref (aU 0), .int v1, .int v2])).length) Slot.unset).toArray = ls at hl ⊢
  replace hl : lv_has ls 4 [(0, .ref (aU 0)), (1, .int v1), (2, .int v2)] := hl
  show W p l e rmTX6_sensitivityAnew s m args below meth c s.heap [] 0 0 _ (F0 m 0 ls [])
  suffices main : ∀ (H : Heap) (locs : List Loc) (ls : Array Slot), va_P D vwCl (wU k aU xI xL xS xB xV xC Uformulas Udrawn Umodels) H → va_D A (wU k aU xI xL xS xB xV xC Uformulas Udrawn Umodels) → va_S A s.heap H locs → lv_has ls 4 [(0, .ref (aU 0)), (1, .int v1), (2, .int v2)] → W p l e rmTX6_sensitivityAnew s m args below meth c H locs 0 0 _ (F0 m 0 ls []) from main _ _ _ hP hD hS hl
  clear hP hD hS hl ls
  intro H locs ls hP hD hS hl
  refine lv_aload_n hx hb dX6_sensitivityAnew_0 rfl (lv_at hl 0 rfl) ?_
  refine lv_iload_n hx hb dX6_sensitivityAnew_1 rfl (lv_at hl 1 rfl) ?_
  have hFc := va_free (wc := (wU k aU xI xL xS xB xV xC Uformulas Udrawn Umodels)) hD hS hA [0, 1, 2] rfl
  exact xt_v (vx_runV (As := [.int v1]) (rest := []) ⟨hx, hb, hml, hown, hts⟩ (thr_X6_formulaOf l hst D k aU xI xL xS xB xV xC H.size Uformulas Udrawn Umodels v1 k1) (cwV 1 hts gX6_sensitivityAnew_X6_formulaOf rfl rfl rfl (by decide +kernel) ⟨Nat.le_of_ble_eq_true rfl, Nat.le_of_ble_eq_true rfl⟩) ⟨px_blind, va_recv hK hP (ci := 6) (q0 := 0) rfl rfl, px_start hP hK hD (XP.keep hXP hS.2.1) hFc⟩ rfl rfl hl.1 rfl (lv_room (Nat.le_of_ble_eq_true rfl)) dX6_sensitivityAnew_2 ⟨Nat.le_refl _, Nat.le_refl _⟩) hAe hP hK hD hS hFc (fun H1 hP1 hD1 hk1 => vj_all hFc hP1 hD1) htab hlocks
set_option maxHeartbeats 4000000 in
set_option maxRecDepth 100000 in
theorem thr_X6_sensitivityAnew_1 (l : Launch) (hst : l.stackTraces = false) (D : va_G) (k : Nat → ClassId) (aU : Nat → Nat) (xI xL xS xB xV xC : Nat) (sz : Nat) (Uformulas : Nat → Option Nat) (Udrawn : Nat → Int32) (Umodels : Int32) (v1 : Int32) (v2 : Int32) (pF : Nat) (k2 : vp_in v1 8 ∧ Uformulas v1.toNatClampNeg = some pF) (k3 : v2 < 0 ∨ ¬ v2 < 6) : vx_Met l yX6_sensitivityAnew wsX6_sensitivityAnew rmTX6_sensitivityAnew (va_Pc [.ref (aU 0), .int v1, .int v2] (PreX D k (wU k aU xI xL xS xB xV xC Uformulas Udrawn Umodels) sz)) NQ (XQ D k (wU k aU xI xL xS xB xV xC Uformulas Udrawn Umodels) sz exI) 1 6 (va_A (wU k aU xI xL xS xB xV xC Uformulas Udrawn Umodels) sz) := by
  refine vx_ofW (cc := cX6_sensitivityAnew) (maxL := 4) (ret := (some .long)) (by decide) rfl ?_
  intro p e s m args below meth c s₁ B hml htab hv
  obtain ⟨hav, ⟨hsz, hP, hK, hD0⟩, hXP⟩ := hv
  have hx := B.exec
  have hb := B.bytes
  have hts := atoms_spec (ws := wsX6_sensitivityAnew) B.pre
  have hown : s.vm.findClass RX6 = some m.cls := findClass_of_methodNamed B.named
  have hlocks := B.notSynchronized
  subst hsz
  have hD := hD0.self (sz := s.heap.size)
  clear hD0
  obtain ⟨A, hAe⟩ : ∃ A, va_A (wU k aU xI xL xS xB xV xC Uformulas Udrawn Umodels) s.heap.size = A := ⟨_, rfl⟩
  rw [hAe] at hD hXP
  have hA : ∀ q : Nat, s.heap.size ≤ q → A q := fun q h => by rw [← hAe]; exact Or.inr h
  have hS : va_S A s.heap s.heap [] := va_S.rf
  have hl := lv_entry ([.ref (aU 0), .int v1, .int v2]) (n := 4) (Nat.le_of_ble_eq_true rfl)
  rw [show entryFrame m args 4 = entryFrame m ([.ref (aU 0), .int v1, .int v2] : List Value).toArray 4 from by rw [hav], lg_entry_eq]
  generalize (lg_sl ([.ref (aU 0), .int v1, .int v2]) ++ List.replicate (4 - (lg_sl ([.ref (aU 0), .int v1, .int v2])).length) Slot.unset).toArray = ls at hl ⊢
  replace hl : lv_has ls 4 [(0, .ref (aU 0)), (1, .int v1), (2, .int v2)] := hl
  show W p l e rmTX6_sensitivityAnew s m args below meth c s.heap [] 0 0 _ (F0 m 0 ls [])
  suffices main : ∀ (H : Heap) (locs : List Loc) (ls : Array Slot), va_P D vwCl (wU k aU xI xL xS xB xV xC Uformulas Udrawn Umodels) H → va_D A (wU k aU xI xL xS xB xV xC Uformulas Udrawn Umodels) → va_S A s.heap H locs → lv_has ls 4 [(0, .ref (aU 0)), (1, .int v1), (2, .int v2)] → W p l e rmTX6_sensitivityAnew s m args below meth c H locs 0 0 _ (F0 m 0 ls []) from main _ _ _ hP hD hS hl
  clear hP hD hS hl ls
  intro H locs ls hP hD hS hl
  refine lv_aload_n hx hb dX6_sensitivityAnew_0 rfl (lv_at hl 0 rfl) ?_
  refine lv_iload_n hx hb dX6_sensitivityAnew_1 rfl (lv_at hl 1 rfl) ?_
  have hFc := va_free (wc := (wU k aU xI xL xS xB xV xC Uformulas Udrawn Umodels)) hD hS hA [0, 1, 2] rfl
  refine xc_r (va_runV (As := [.int v1]) (rest := []) ⟨hx, hb, hml, hown, hts⟩ (met_X6_formulaOf l D k aU xI xL xS xB xV xC H.size Uformulas Udrawn Umodels v1 pF k2) (cwV 1 hts gX6_sensitivityAnew_X6_formulaOf rfl rfl rfl (by decide +kernel) ⟨Nat.le_of_ble_eq_true rfl, Nat.le_of_ble_eq_true rfl⟩) ⟨pw_blind, va_recv hK hP (ci := 6) (q0 := 0) rfl rfl, pw_start hP hK hD⟩ rfl rfl hl.1 rfl (lv_room (Nat.le_of_ble_eq_true rfl)) dX6_sensitivityAnew_2 ⟨Nat.zero_le _, Nat.zero_le _⟩) hS hFc (fun H1 locs hP1 hD1 hk1 hS => ?_)
  obtain ⟨hP, hD⟩ := vj_all hFc hP1 hD1
  clear hP1 hD1 hk1 hFc
  generalize H1 = H at hP hS ⊢
  refine lv_astore_n (lv' := [(3, .ref pF), (0, .ref (aU 0)), (1, .int v1), (2, .int v2)]) hx hb dX6_sensitivityAnew_5 rfl hl (by decide) rfl (fun ls hl => ?_)
  refine lv_iload_n hx hb dX6_sensitivityAnew_6 rfl (lv_at hl 3 rfl) ?_
  have hPc := hP.sub (ws' := ([] : va_W)) [] rfl
  have hDc := hD.sub (ws' := ([] : va_W)) [] rfl rfl
  have hFc := va_free (wc := ([] : va_W)) hD hS hA [] rfl
  exact xt_v (vx_runS (As := [.int v2]) (rest := []) ⟨hx, hb, hml, hown, hts⟩ (thr_X6_checkInput l hst D k H.size v2 k3) (va_cwS 1 hts gX6_sensitivityAnew_X6_checkInput rfl rfl rfl (by decide +kernel) ⟨Nat.le_of_ble_eq_true rfl, Nat.le_of_ble_eq_true rfl⟩) ⟨px_blind, px_start hPc hK hDc (XP.keep hXP hS.2.1) hFc⟩ rfl rfl hl.1 rfl (lv_room (Nat.le_of_ble_eq_true rfl)) dX6_sensitivityAnew_7 ⟨Nat.le_refl _, Nat.le_refl _⟩) hAe hP hK hD hS hFc (fun H1 hP1 hD1 hk1 => vk hP hD [] rfl hk1 hP1) htab hlocks
abbrev rmTX6_budget : Room := { frames := 7, cells := 1, slots := 6, locals := 140 }
set_option maxHeartbeats 4000000 in
set_option maxRecDepth 100000 in
theorem thr_X6_budget_0 (l : Launch) (hst : l.stackTraces = false) (D : va_G) (k : Nat → ClassId) (aU : Nat → Nat) (xI xL xS xB xV xC : Nat) (sz : Nat) (Uformulas : Nat → Option Nat) (Udrawn : Nat → Int32) (Umodels : Int32) (v1 : Int32) (v2 : Int32)  (k1 : ¬ vp_in v1 8 ∨ Uformulas v1.toNatClampNeg = none) : vx_Met l yX6_budget wsX6_budget rmTX6_budget (va_Pc [.ref (aU 0), .int v1, .int v2] (PreX D k (wU k aU xI xL xS xB xV xC Uformulas Udrawn Umodels) sz)) NQ (XQ D k (wU k aU xI xL xS xB xV xC Uformulas Udrawn Umodels) sz exI) 1 6 (va_A (wU k aU xI xL xS xB xV xC Uformulas Udrawn Umodels) sz) := by
  refine vx_ofW (cc := cX6_budget) (maxL := 4) (ret := (some .long)) (by decide) rfl ?_
  intro p e s m args below meth c s₁ B hml htab hv
  obtain ⟨hav, ⟨hsz, hP, hK, hD0⟩, hXP⟩ := hv
  have hx := B.exec
  have hb := B.bytes
  have hts := atoms_spec (ws := wsX6_budget) B.pre
  have hown : s.vm.findClass RX6 = some m.cls := findClass_of_methodNamed B.named
  have hlocks := B.notSynchronized
  subst hsz
  have hD := hD0.self (sz := s.heap.size)
  clear hD0
  obtain ⟨A, hAe⟩ : ∃ A, va_A (wU k aU xI xL xS xB xV xC Uformulas Udrawn Umodels) s.heap.size = A := ⟨_, rfl⟩
  rw [hAe] at hD hXP
  have hA : ∀ q : Nat, s.heap.size ≤ q → A q := fun q h => by rw [← hAe]; exact Or.inr h
  have hS : va_S A s.heap s.heap [] := va_S.rf
  have hl := lv_entry ([.ref (aU 0), .int v1, .int v2]) (n := 4) (Nat.le_of_ble_eq_true rfl)
  rw [show entryFrame m args 4 = entryFrame m ([.ref (aU 0), .int v1, .int v2] : List Value).toArray 4 from by rw [hav], lg_entry_eq]
  generalize (lg_sl ([.ref (aU 0), .int v1, .int v2]) ++ List.replicate (4 - (lg_sl ([.ref (aU 0), .int v1, .int v2])).length) Slot.unset).toArray = ls at hl ⊢
  replace hl : lv_has ls 4 [(0, .ref (aU 0)), (1, .int v1), (2, .int v2)] := hl
  show W p l e rmTX6_budget s m args below meth c s.heap [] 0 0 _ (F0 m 0 ls [])
  suffices main : ∀ (H : Heap) (locs : List Loc) (ls : Array Slot), va_P D vwCl (wU k aU xI xL xS xB xV xC Uformulas Udrawn Umodels) H → va_D A (wU k aU xI xL xS xB xV xC Uformulas Udrawn Umodels) → va_S A s.heap H locs → lv_has ls 4 [(0, .ref (aU 0)), (1, .int v1), (2, .int v2)] → W p l e rmTX6_budget s m args below meth c H locs 0 0 _ (F0 m 0 ls []) from main _ _ _ hP hD hS hl
  clear hP hD hS hl ls
  intro H locs ls hP hD hS hl
  refine lv_aload_n hx hb dX6_budget_0 rfl (lv_at hl 0 rfl) ?_
  refine lv_iload_n hx hb dX6_budget_1 rfl (lv_at hl 1 rfl) ?_
  have hFc := va_free (wc := (wU k aU xI xL xS xB xV xC Uformulas Udrawn Umodels)) hD hS hA [0, 1, 2] rfl
  exact xt_v (vx_runV (As := [.int v1]) (rest := []) ⟨hx, hb, hml, hown, hts⟩ (thr_X6_formulaOf l hst D k aU xI xL xS xB xV xC H.size Uformulas Udrawn Umodels v1 k1) (cwV 1 hts gX6_budget_X6_formulaOf rfl rfl rfl (by decide +kernel) ⟨Nat.le_of_ble_eq_true rfl, Nat.le_of_ble_eq_true rfl⟩) ⟨px_blind, va_recv hK hP (ci := 6) (q0 := 0) rfl rfl, px_start hP hK hD (XP.keep hXP hS.2.1) hFc⟩ rfl rfl hl.1 rfl (lv_room (Nat.le_of_ble_eq_true rfl)) dX6_budget_2 ⟨Nat.le_refl _, Nat.le_refl _⟩) hAe hP hK hD hS hFc (fun H1 hP1 hD1 hk1 => vj_all hFc hP1 hD1) htab hlocks
set_option maxHeartbeats 4000000 in
set_option maxRecDepth 100000 in
theorem thr_X6_budget_1 (l : Launch) (hst : l.stackTraces = false) (D : va_G) (k : Nat → ClassId) (aU : Nat → Nat) (xI xL xS xB xV xC : Nat) (sz : Nat) (Uformulas : Nat → Option Nat) (Udrawn : Nat → Int32) (Umodels : Int32) (v1 : Int32) (v2 : Int32) (pF : Nat) (k2 : vp_in v1 8 ∧ Uformulas v1.toNatClampNeg = some pF) (k3 : v2 < 0 ∨ ¬ v2 ≤ 4) : vx_Met l yX6_budget wsX6_budget rmTX6_budget (va_Pc [.ref (aU 0), .int v1, .int v2] (PreX D k (wU k aU xI xL xS xB xV xC Uformulas Udrawn Umodels) sz)) NQ (XQ D k (wU k aU xI xL xS xB xV xC Uformulas Udrawn Umodels) sz exA) 1 6 (va_A (wU k aU xI xL xS xB xV xC Uformulas Udrawn Umodels) sz) := by
  refine vx_ofW (cc := cX6_budget) (maxL := 4) (ret := (some .long)) (by decide) rfl ?_
  intro p e s m args below meth c s₁ B hml htab hv
  obtain ⟨hav, ⟨hsz, hP, hK, hD0⟩, hXP⟩ := hv
  have hx := B.exec
  have hb := B.bytes
  have hts := atoms_spec (ws := wsX6_budget) B.pre
  have hown : s.vm.findClass RX6 = some m.cls := findClass_of_methodNamed B.named
  have hlocks := B.notSynchronized
  subst hsz
  have hD := hD0.self (sz := s.heap.size)
  clear hD0
  obtain ⟨A, hAe⟩ : ∃ A, va_A (wU k aU xI xL xS xB xV xC Uformulas Udrawn Umodels) s.heap.size = A := ⟨_, rfl⟩
  rw [hAe] at hD hXP
  have hA : ∀ q : Nat, s.heap.size ≤ q → A q := fun q h => by rw [← hAe]; exact Or.inr h
  have hS : va_S A s.heap s.heap [] := va_S.rf
  have hl := lv_entry ([.ref (aU 0), .int v1, .int v2]) (n := 4) (Nat.le_of_ble_eq_true rfl)
  rw [show entryFrame m args 4 = entryFrame m ([.ref (aU 0), .int v1, .int v2] : List Value).toArray 4 from by rw [hav], lg_entry_eq]
  generalize (lg_sl ([.ref (aU 0), .int v1, .int v2]) ++ List.replicate (4 - (lg_sl ([.ref (aU 0), .int v1, .int v2])).length) Slot.unset).toArray = ls at hl ⊢
  replace hl : lv_has ls 4 [(0, .ref (aU 0)), (1, .int v1), (2, .int v2)] := hl
  show W p l e rmTX6_budget s m args below meth c s.heap [] 0 0 _ (F0 m 0 ls [])
  suffices main : ∀ (H : Heap) (locs : List Loc) (ls : Array Slot), va_P D vwCl (wU k aU xI xL xS xB xV xC Uformulas Udrawn Umodels) H → va_D A (wU k aU xI xL xS xB xV xC Uformulas Udrawn Umodels) → va_S A s.heap H locs → lv_has ls 4 [(0, .ref (aU 0)), (1, .int v1), (2, .int v2)] → W p l e rmTX6_budget s m args below meth c H locs 0 0 _ (F0 m 0 ls []) from main _ _ _ hP hD hS hl
  clear hP hD hS hl ls
  intro H locs ls hP hD hS hl
  refine lv_aload_n hx hb dX6_budget_0 rfl (lv_at hl 0 rfl) ?_
  refine lv_iload_n hx hb dX6_budget_1 rfl (lv_at hl 1 rfl) ?_
  have hFc := va_free (wc := (wU k aU xI xL xS xB xV xC Uformulas Udrawn Umodels)) hD hS hA [0, 1, 2] rfl
  refine xc_r (va_runV (As := [.int v1]) (rest := []) ⟨hx, hb, hml, hown, hts⟩ (met_X6_formulaOf l D k aU xI xL xS xB xV xC H.size Uformulas Udrawn Umodels v1 pF k2) (cwV 1 hts gX6_budget_X6_formulaOf rfl rfl rfl (by decide +kernel) ⟨Nat.le_of_ble_eq_true rfl, Nat.le_of_ble_eq_true rfl⟩) ⟨pw_blind, va_recv hK hP (ci := 6) (q0 := 0) rfl rfl, pw_start hP hK hD⟩ rfl rfl hl.1 rfl (lv_room (Nat.le_of_ble_eq_true rfl)) dX6_budget_2 ⟨Nat.zero_le _, Nat.zero_le _⟩) hS hFc (fun H1 locs hP1 hD1 hk1 hS => ?_)
  obtain ⟨hP, hD⟩ := vj_all hFc hP1 hD1
  clear hP1 hD1 hk1 hFc
  generalize H1 = H at hP hS ⊢
  refine lv_astore_n (lv' := [(3, .ref pF), (0, .ref (aU 0)), (1, .int v1), (2, .int v2)]) hx hb dX6_budget_5 rfl hl (by decide) rfl (fun ls hl => ?_)
  refine lv_iload_n hx hb dX6_budget_6 rfl (lv_at hl 3 rfl) ?_
  refine lv_iconst (v := 0) hx hb dX6_budget_7 (by decide) ?_
  refine lv_iconst (v := 4) hx hb dX6_budget_8 (by decide) ?_
  have hPc := hP.sub (ws' := ([] : va_W)) [] rfl
  have hDc := hD.sub (ws' := ([] : va_W)) [] rfl rfl
  have hFc := va_free (wc := ([] : va_W)) hD hS hA [] rfl
  exact xt_v (vx_runS (As := [.int v2, .int 0, .int 4]) (rest := []) ⟨hx, hb, hml, hown, hts⟩ (thr_X6_checkRange l hst D k H.size v2 0 4 k3) (va_cwS 3 hts gX6_budget_X6_checkRange rfl rfl rfl (by decide +kernel) ⟨Nat.le_of_ble_eq_true rfl, Nat.le_of_ble_eq_true rfl⟩) ⟨px_blind, px_start hPc hK hDc (XP.keep hXP hS.2.1) hFc⟩ rfl rfl hl.1 rfl (lv_room (Nat.le_of_ble_eq_true rfl)) dX6_budget_9 ⟨Nat.le_refl _, Nat.le_refl _⟩) hAe hP hK hD hS hFc (fun H1 hP1 hD1 hk1 => vk hP hD [] rfl hk1 hP1) htab hlocks
abbrev rmTX6_contribution : Room := { frames := 7, cells := 1, slots := 6, locals := 140 }
set_option maxHeartbeats 4000000 in
set_option maxRecDepth 100000 in
theorem thr_X6_contribution_0 (l : Launch) (hst : l.stackTraces = false) (D : va_G) (k : Nat → ClassId) (aU : Nat → Nat) (xI xL xS xB xV xC : Nat) (sz : Nat) (Uformulas : Nat → Option Nat) (Udrawn : Nat → Int32) (Umodels : Int32) (v1 : Int32) (v2 : Int32) (v3 : Int32)  (k1 : ¬ vp_in v1 8 ∨ Uformulas v1.toNatClampNeg = none) : vx_Met l yX6_contribution wsX6_contribution rmTX6_contribution (va_Pc [.ref (aU 0), .int v1, .int v2, .int v3] (PreX D k (wU k aU xI xL xS xB xV xC Uformulas Udrawn Umodels) sz)) NQ (XQ D k (wU k aU xI xL xS xB xV xC Uformulas Udrawn Umodels) sz exI) 1 6 (va_A (wU k aU xI xL xS xB xV xC Uformulas Udrawn Umodels) sz) := by
  refine vx_ofW (cc := cX6_contribution) (maxL := 5) (ret := (some .long)) (by decide) rfl ?_
  intro p e s m args below meth c s₁ B hml htab hv
  obtain ⟨hav, ⟨hsz, hP, hK, hD0⟩, hXP⟩ := hv
  have hx := B.exec
  have hb := B.bytes
  have hts := atoms_spec (ws := wsX6_contribution) B.pre
  have hown : s.vm.findClass RX6 = some m.cls := findClass_of_methodNamed B.named
  have hlocks := B.notSynchronized
  subst hsz
  have hD := hD0.self (sz := s.heap.size)
  clear hD0
  obtain ⟨A, hAe⟩ : ∃ A, va_A (wU k aU xI xL xS xB xV xC Uformulas Udrawn Umodels) s.heap.size = A := ⟨_, rfl⟩
  rw [hAe] at hD hXP
  have hA : ∀ q : Nat, s.heap.size ≤ q → A q := fun q h => by rw [← hAe]; exact Or.inr h
  have hS : va_S A s.heap s.heap [] := va_S.rf
  have hl := lv_entry ([.ref (aU 0), .int v1, .int v2, .int v3]) (n := 5) (Nat.le_of_ble_eq_true rfl)
  rw [show entryFrame m args 5 = entryFrame m ([.ref (aU 0), .int v1, .int v2, .int v3] : List Value).toArray 5 from by rw [hav], lg_entry_eq]
  generalize (lg_sl ([.ref (aU 0), .int v1, .int v2, .int v3]) ++ List.replicate (5 - (lg_sl ([.ref (aU 0), .int v1, .int v2, .int v3])).length) Slot.unset).toArray = ls at hl ⊢
  replace hl : lv_has ls 5 [(0, .ref (aU 0)), (1, .int v1), (2, .int v2), (3, .int v3)] := hl
  show W p l e rmTX6_contribution s m args below meth c s.heap [] 0 0 _ (F0 m 0 ls [])
  suffices main : ∀ (H : Heap) (locs : List Loc) (ls : Array Slot), va_P D vwCl (wU k aU xI xL xS xB xV xC Uformulas Udrawn Umodels) H → va_D A (wU k aU xI xL xS xB xV xC Uformulas Udrawn Umodels) → va_S A s.heap H locs → lv_has ls 5 [(0, .ref (aU 0)), (1, .int v1), (2, .int v2), (3, .int v3)] → W p l e rmTX6_contribution s m args below meth c H locs 0 0 _ (F0 m 0 ls []) from main _ _ _ hP hD hS hl
  clear hP hD hS hl ls
  intro H locs ls hP hD hS hl
  refine lv_aload_n hx hb dX6_contribution_0 rfl (lv_at hl 0 rfl) ?_
  refine lv_iload_n hx hb dX6_contribution_1 rfl (lv_at hl 1 rfl) ?_
  have hFc := va_free (wc := (wU k aU xI xL xS xB xV xC Uformulas Udrawn Umodels)) hD hS hA [0, 1, 2] rfl
  exact xt_v (vx_runV (As := [.int v1]) (rest := []) ⟨hx, hb, hml, hown, hts⟩ (thr_X6_formulaOf l hst D k aU xI xL xS xB xV xC H.size Uformulas Udrawn Umodels v1 k1) (cwV 1 hts gX6_contribution_X6_formulaOf rfl rfl rfl (by decide +kernel) ⟨Nat.le_of_ble_eq_true rfl, Nat.le_of_ble_eq_true rfl⟩) ⟨px_blind, va_recv hK hP (ci := 6) (q0 := 0) rfl rfl, px_start hP hK hD (XP.keep hXP hS.2.1) hFc⟩ rfl rfl hl.1 rfl (lv_room (Nat.le_of_ble_eq_true rfl)) dX6_contribution_2 ⟨Nat.le_refl _, Nat.le_refl _⟩) hAe hP hK hD hS hFc (fun H1 hP1 hD1 hk1 => vj_all hFc hP1 hD1) htab hlocks
set_option maxHeartbeats 4000000 in
set_option maxRecDepth 100000 in
theorem thr_X6_contribution_1 (l : Launch) (hst : l.stackTraces = false) (D : va_G) (k : Nat → ClassId) (aU : Nat → Nat) (xI xL xS xB xV xC : Nat) (sz : Nat) (Uformulas : Nat → Option Nat) (Udrawn : Nat → Int32) (Umodels : Int32) (v1 : Int32) (v2 : Int32) (v3 : Int32) (pF : Nat) (k2 : vp_in v1 8 ∧ Uformulas v1.toNatClampNeg = some pF) (k3 : v2 < 0 ∨ ¬ v2 < 6) : vx_Met l yX6_contribution wsX6_contribution rmTX6_contribution (va_Pc [.ref (aU 0), .int v1, .int v2, .int v3] (PreX D k (wU k aU xI xL xS xB xV xC Uformulas Udrawn Umodels) sz)) NQ (XQ D k (wU k aU xI xL xS xB xV xC Uformulas Udrawn Umodels) sz exI) 1 6 (va_A (wU k aU xI xL xS xB xV xC Uformulas Udrawn Umodels) sz) := by
  refine vx_ofW (cc := cX6_contribution) (maxL := 5) (ret := (some .long)) (by decide) rfl ?_
  intro p e s m args below meth c s₁ B hml htab hv
  obtain ⟨hav, ⟨hsz, hP, hK, hD0⟩, hXP⟩ := hv
  have hx := B.exec
  have hb := B.bytes
  have hts := atoms_spec (ws := wsX6_contribution) B.pre
  have hown : s.vm.findClass RX6 = some m.cls := findClass_of_methodNamed B.named
  have hlocks := B.notSynchronized
  subst hsz
  have hD := hD0.self (sz := s.heap.size)
  clear hD0
  obtain ⟨A, hAe⟩ : ∃ A, va_A (wU k aU xI xL xS xB xV xC Uformulas Udrawn Umodels) s.heap.size = A := ⟨_, rfl⟩
  rw [hAe] at hD hXP
  have hA : ∀ q : Nat, s.heap.size ≤ q → A q := fun q h => by rw [← hAe]; exact Or.inr h
  have hS : va_S A s.heap s.heap [] := va_S.rf
  have hl := lv_entry ([.ref (aU 0), .int v1, .int v2, .int v3]) (n := 5) (Nat.le_of_ble_eq_true rfl)
  rw [show entryFrame m args 5 = entryFrame m ([.ref (aU 0), .int v1, .int v2, .int v3] : List Value).toArray 5 from by rw [hav], lg_entry_eq]
  generalize (lg_sl ([.ref (aU 0), .int v1, .int v2, .int v3]) ++ List.replicate (5 - (lg_sl ([.ref (aU 0), .int v1, .int v2, .int v3])).length) Slot.unset).toArray = ls at hl ⊢
  replace hl : lv_has ls 5 [(0, .ref (aU 0)), (1, .int v1), (2, .int v2), (3, .int v3)] := hl
  show W p l e rmTX6_contribution s m args below meth c s.heap [] 0 0 _ (F0 m 0 ls [])
  suffices main : ∀ (H : Heap) (locs : List Loc) (ls : Array Slot), va_P D vwCl (wU k aU xI xL xS xB xV xC Uformulas Udrawn Umodels) H → va_D A (wU k aU xI xL xS xB xV xC Uformulas Udrawn Umodels) → va_S A s.heap H locs → lv_has ls 5 [(0, .ref (aU 0)), (1, .int v1), (2, .int v2), (3, .int v3)] → W p l e rmTX6_contribution s m args below meth c H locs 0 0 _ (F0 m 0 ls []) from main _ _ _ hP hD hS hl
  clear hP hD hS hl ls
  intro H locs ls hP hD hS hl
  refine lv_aload_n hx hb dX6_contribution_0 rfl (lv_at hl 0 rfl) ?_
  refine lv_iload_n hx hb dX6_contribution_1 rfl (lv_at hl 1 rfl) ?_
  have hFc := va_free (wc := (wU k aU xI xL xS xB xV xC Uformulas Udrawn Umodels)) hD hS hA [0, 1, 2] rfl
  refine xc_r (va_runV (As := [.int v1]) (rest := []) ⟨hx, hb, hml, hown, hts⟩ (met_X6_formulaOf l D k aU xI xL xS xB xV xC H.size Uformulas Udrawn Umodels v1 pF k2) (cwV 1 hts gX6_contribution_X6_formulaOf rfl rfl rfl (by decide +kernel) ⟨Nat.le_of_ble_eq_true rfl, Nat.le_of_ble_eq_true rfl⟩) ⟨pw_blind, va_recv hK hP (ci := 6) (q0 := 0) rfl rfl, pw_start hP hK hD⟩ rfl rfl hl.1 rfl (lv_room (Nat.le_of_ble_eq_true rfl)) dX6_contribution_2 ⟨Nat.zero_le _, Nat.zero_le _⟩) hS hFc (fun H1 locs hP1 hD1 hk1 hS => ?_)
  obtain ⟨hP, hD⟩ := vj_all hFc hP1 hD1
  clear hP1 hD1 hk1 hFc
  generalize H1 = H at hP hS ⊢
  refine lv_astore (lv' := [(4, .ref pF), (0, .ref (aU 0)), (1, .int v1), (2, .int v2), (3, .int v3)]) hx hb dX6_contribution_5 hl (by decide) rfl (fun ls hl => ?_)
  refine lv_iload_n hx hb dX6_contribution_7 rfl (lv_at hl 3 rfl) ?_
  have hPc := hP.sub (ws' := ([] : va_W)) [] rfl
  have hDc := hD.sub (ws' := ([] : va_W)) [] rfl rfl
  have hFc := va_free (wc := ([] : va_W)) hD hS hA [] rfl
  exact xt_v (vx_runS (As := [.int v2]) (rest := []) ⟨hx, hb, hml, hown, hts⟩ (thr_X6_checkInput l hst D k H.size v2 k3) (va_cwS 1 hts gX6_contribution_X6_checkInput rfl rfl rfl (by decide +kernel) ⟨Nat.le_of_ble_eq_true rfl, Nat.le_of_ble_eq_true rfl⟩) ⟨px_blind, px_start hPc hK hDc (XP.keep hXP hS.2.1) hFc⟩ rfl rfl hl.1 rfl (lv_room (Nat.le_of_ble_eq_true rfl)) dX6_contribution_8 ⟨Nat.le_refl _, Nat.le_refl _⟩) hAe hP hK hD hS hFc (fun H1 hP1 hD1 hk1 => vk hP hD [] rfl hk1 hP1) htab hlocks
abbrev rmTX6_ranked : Room := { frames := 7, cells := 1, slots := 6, locals := 140 }
set_option maxHeartbeats 4000000 in
set_option maxRecDepth 100000 in
theorem thr_X6_ranked_0 (l : Launch) (hst : l.stackTraces = false) (D : va_G) (k : Nat → ClassId) (aU : Nat → Nat) (xI xL xS xB xV xC : Nat) (sz : Nat) (Uformulas : Nat → Option Nat) (Udrawn : Nat → Int32) (Umodels : Int32) (v1 : Int32) (v2 : Int32)  (k1 : ¬ vp_in v1 8 ∨ Uformulas v1.toNatClampNeg = none) : vx_Met l yX6_ranked wsX6_ranked rmTX6_ranked (va_Pc [.ref (aU 0), .int v1, .int v2] (PreX D k (wU k aU xI xL xS xB xV xC Uformulas Udrawn Umodels) sz)) NQ (XQ D k (wU k aU xI xL xS xB xV xC Uformulas Udrawn Umodels) sz exI) 1 6 (va_A (wU k aU xI xL xS xB xV xC Uformulas Udrawn Umodels) sz) := by
  refine vx_ofW (cc := cX6_ranked) (maxL := 4) (ret := (some .int)) (by decide) rfl ?_
  intro p e s m args below meth c s₁ B hml htab hv
  obtain ⟨hav, ⟨hsz, hP, hK, hD0⟩, hXP⟩ := hv
  have hx := B.exec
  have hb := B.bytes
  have hts := atoms_spec (ws := wsX6_ranked) B.pre
  have hown : s.vm.findClass RX6 = some m.cls := findClass_of_methodNamed B.named
  have hlocks := B.notSynchronized
  subst hsz
  have hD := hD0.self (sz := s.heap.size)
  clear hD0
  obtain ⟨A, hAe⟩ : ∃ A, va_A (wU k aU xI xL xS xB xV xC Uformulas Udrawn Umodels) s.heap.size = A := ⟨_, rfl⟩
  rw [hAe] at hD hXP
  have hA : ∀ q : Nat, s.heap.size ≤ q → A q := fun q h => by rw [← hAe]; exact Or.inr h
  have hS : va_S A s.heap s.heap [] := va_S.rf
  have hl := lv_entry ([.ref (aU 0), .int v1, .int v2]) (n := 4) (Nat.le_of_ble_eq_true rfl)
  rw [show entryFrame m args 4 = entryFrame m ([.ref (aU 0), .int v1, .int v2] : List Value).toArray 4 from by rw [hav], lg_entry_eq]
  generalize (lg_sl ([.ref (aU 0), .int v1, .int v2]) ++ List.replicate (4 - (lg_sl ([.ref (aU 0), .int v1, .int v2])).length) Slot.unset).toArray = ls at hl ⊢
  replace hl : lv_has ls 4 [(0, .ref (aU 0)), (1, .int v1), (2, .int v2)] := hl
  show W p l e rmTX6_ranked s m args below meth c s.heap [] 0 0 _ (F0 m 0 ls [])
  suffices main : ∀ (H : Heap) (locs : List Loc) (ls : Array Slot), va_P D vwCl (wU k aU xI xL xS xB xV xC Uformulas Udrawn Umodels) H → va_D A (wU k aU xI xL xS xB xV xC Uformulas Udrawn Umodels) → va_S A s.heap H locs → lv_has ls 4 [(0, .ref (aU 0)), (1, .int v1), (2, .int v2)] → W p l e rmTX6_ranked s m args below meth c H locs 0 0 _ (F0 m 0 ls []) from main _ _ _ hP hD hS hl
  clear hP hD hS hl ls
  intro H locs ls hP hD hS hl
  refine lv_aload_n hx hb dX6_ranked_0 rfl (lv_at hl 0 rfl) ?_
  refine lv_iload_n hx hb dX6_ranked_1 rfl (lv_at hl 1 rfl) ?_
  have hFc := va_free (wc := (wU k aU xI xL xS xB xV xC Uformulas Udrawn Umodels)) hD hS hA [0, 1, 2] rfl
  exact xt_v (vx_runV (As := [.int v1]) (rest := []) ⟨hx, hb, hml, hown, hts⟩ (thr_X6_formulaOf l hst D k aU xI xL xS xB xV xC H.size Uformulas Udrawn Umodels v1 k1) (cwV 1 hts gX6_ranked_X6_formulaOf rfl rfl rfl (by decide +kernel) ⟨Nat.le_of_ble_eq_true rfl, Nat.le_of_ble_eq_true rfl⟩) ⟨px_blind, va_recv hK hP (ci := 6) (q0 := 0) rfl rfl, px_start hP hK hD (XP.keep hXP hS.2.1) hFc⟩ rfl rfl hl.1 rfl (lv_room (Nat.le_of_ble_eq_true rfl)) dX6_ranked_2 ⟨Nat.le_refl _, Nat.le_refl _⟩) hAe hP hK hD hS hFc (fun H1 hP1 hD1 hk1 => vj_all hFc hP1 hD1) htab hlocks
set_option maxHeartbeats 4000000 in
set_option maxRecDepth 100000 in
theorem thr_X6_ranked_1 (l : Launch) (hst : l.stackTraces = false) (D : va_G) (k : Nat → ClassId) (aU : Nat → Nat) (xI xL xS xB xV xC : Nat) (sz : Nat) (Uformulas : Nat → Option Nat) (Udrawn : Nat → Int32) (Umodels : Int32) (v1 : Int32) (v2 : Int32) (pF : Nat) (k2 : vp_in v1 8 ∧ Uformulas v1.toNatClampNeg = some pF) (c3 : ¬ (0 ≤ v2)) : vx_Met l yX6_ranked wsX6_ranked rmTX6_ranked (va_Pc [.ref (aU 0), .int v1, .int v2] (PreX D k (wU k aU xI xL xS xB xV xC Uformulas Udrawn Umodels) sz)) NQ (XQ D k (wU k aU xI xL xS xB xV xC Uformulas Udrawn Umodels) sz exI) 1 6 (va_A (wU k aU xI xL xS xB xV xC Uformulas Udrawn Umodels) sz) := by
  refine vx_ofW (cc := cX6_ranked) (maxL := 4) (ret := (some .int)) (by decide) rfl ?_
  intro p e s m args below meth c s₁ B hml htab hv
  obtain ⟨hav, ⟨hsz, hP, hK, hD0⟩, hXP⟩ := hv
  have hx := B.exec
  have hb := B.bytes
  have hts := atoms_spec (ws := wsX6_ranked) B.pre
  have hown : s.vm.findClass RX6 = some m.cls := findClass_of_methodNamed B.named
  have hlocks := B.notSynchronized
  subst hsz
  have hD := hD0.self (sz := s.heap.size)
  clear hD0
  obtain ⟨A, hAe⟩ : ∃ A, va_A (wU k aU xI xL xS xB xV xC Uformulas Udrawn Umodels) s.heap.size = A := ⟨_, rfl⟩
  rw [hAe] at hD hXP
  have hA : ∀ q : Nat, s.heap.size ≤ q → A q := fun q h => by rw [← hAe]; exact Or.inr h
  have hS : va_S A s.heap s.heap [] := va_S.rf
  have hl := lv_entry ([.ref (aU 0), .int v1, .int v2]) (n := 4) (Nat.le_of_ble_eq_true rfl)
  rw [show entryFrame m args 4 = entryFrame m ([.ref (aU 0), .int v1, .int v2] : List Value).toArray 4 from by rw [hav], lg_entry_eq]
  generalize (lg_sl ([.ref (aU 0), .int v1, .int v2]) ++ List.replicate (4 - (lg_sl ([.ref (aU 0), .int v1, .int v2])).length) Slot.unset).toArray = ls at hl ⊢
  replace hl : lv_has ls 4 [(0, .ref (aU 0)), (1, .int v1), (2, .int v2)] := hl
  show W p l e rmTX6_ranked s m args below meth c s.heap [] 0 0 _ (F0 m 0 ls [])
  suffices main : ∀ (H : Heap) (locs : List Loc) (ls : Array Slot), va_P D vwCl (wU k aU xI xL xS xB xV xC Uformulas Udrawn Umodels) H → va_D A (wU k aU xI xL xS xB xV xC Uformulas Udrawn Umodels) → va_S A s.heap H locs → lv_has ls 4 [(0, .ref (aU 0)), (1, .int v1), (2, .int v2)] → W p l e rmTX6_ranked s m args below meth c H locs 0 0 _ (F0 m 0 ls []) from main _ _ _ hP hD hS hl
  clear hP hD hS hl ls
  intro H locs ls hP hD hS hl
  refine lv_aload_n hx hb dX6_ranked_0 rfl (lv_at hl 0 rfl) ?_
  refine lv_iload_n hx hb dX6_ranked_1 rfl (lv_at hl 1 rfl) ?_
  have hFc := va_free (wc := (wU k aU xI xL xS xB xV xC Uformulas Udrawn Umodels)) hD hS hA [0, 1, 2] rfl
  refine xc_r (va_runV (As := [.int v1]) (rest := []) ⟨hx, hb, hml, hown, hts⟩ (met_X6_formulaOf l D k aU xI xL xS xB xV xC H.size Uformulas Udrawn Umodels v1 pF k2) (cwV 1 hts gX6_ranked_X6_formulaOf rfl rfl rfl (by decide +kernel) ⟨Nat.le_of_ble_eq_true rfl, Nat.le_of_ble_eq_true rfl⟩) ⟨pw_blind, va_recv hK hP (ci := 6) (q0 := 0) rfl rfl, pw_start hP hK hD⟩ rfl rfl hl.1 rfl (lv_room (Nat.le_of_ble_eq_true rfl)) dX6_ranked_2 ⟨Nat.zero_le _, Nat.zero_le _⟩) hS hFc (fun H1 locs hP1 hD1 hk1 hS => ?_)
  obtain ⟨hP, hD⟩ := vj_all hFc hP1 hD1
  clear hP1 hD1 hk1 hFc
  generalize H1 = H at hP hS ⊢
  refine lv_astore_n (lv' := [(3, .ref pF), (0, .ref (aU 0)), (1, .int v1), (2, .int v2)]) hx hb dX6_ranked_5 rfl hl (by decide) rfl (fun ls hl => ?_)
  refine lv_iload_n hx hb dX6_ranked_6 rfl (lv_at hl 3 rfl) ?_
  refine lv_if_ge (tgt := 20) hx hb dX6_ranked_7 (by decide) (fun q => absurd q c3) (fun _ => ?_)
  obtain ⟨sa, hstr⟩ := hXP.2.2.1 (211, "no such place") (by decide +kernel)
  have hg : ∀ w ∈ (vx_atS RX6 143 exI ["java/lang/RuntimeException", "java/lang/Exception"]).filter goodWord, w ∈ wsX6_ranked := by decide +kernel
  have hat : ∀ w ∈ vx_atS RX6 143 exI ["java/lang/RuntimeException", "java/lang/Exception"], w.before args s = true := vx_hat (B := [.castable exI exI, .declares (Bundle.initS "java/lang/RuntimeException"), .declares (Bundle.initS "java/lang/Exception"), .declares (Bundle.initS "java/lang/Throwable")]) (fun w hw => hts w (hg w hw)) (by decide +kernel) (vx_c (va_Nw.use rfl (hXP.2.2.2.1 exI (by decide +kernel))) (vx_c (va_Nw.use rfl (hXP.2.2.2.2 _ (by decide +kernel))) (vx_c (va_Nw.use rfl (hXP.2.2.2.2 _ (by decide +kernel))) (vx_c (va_Nw.use rfl (hXP.2.2.2.2 _ (by decide +kernel))) vx_n))))
  exact vx_throwS (own := RX6) (cls := exI) (text := "no such place") (names := ["java/lang/RuntimeException", "java/lang/Exception"]) (ik := 139) (is := 211) (ic := 143) (sa := sa) (A := A) hx hb hst hown (by decide +kernel) (by decide +kernel) (hts (.classLink RX6 139 exI) (by decide +kernel)) (hts (.initialized exI) (by decide +kernel)) hstr hat (by decide +kernel) hXP.1 hXP.2.1 hS (hl.1.trans hml.symm) dX6_ranked_10 dX6_ranked_13 dX6_ranked_14 dX6_ranked_16 dX6_ranked_19 (fun x hx => (htab x hx).elim) (Nat.le_of_ble_eq_true rfl) (Nat.le_of_ble_eq_true rfl) (Nat.le_refl _) (Nat.le_refl _) hlocks (xq_of hAe hP hK hD hS) (fun z hz => by rw [hAe]; exact hS.2.2 z hz) (Nat.le_refl _) (Nat.le_refl _)
abbrev rmTX6_table : Room := { frames := 8, cells := 1, slots := 6, locals := 400 }
set_option maxHeartbeats 4000000 in
set_option maxRecDepth 100000 in
theorem thr_X6_table_0 (l : Launch) (hst : l.stackTraces = false) (D : va_G) (k : Nat → ClassId) (aU : Nat → Nat) (aV : Nat → Nat) (xI xL xS xB xC : Nat) (sz : Nat) (Uformulas : Nat → Option Nat) (Udrawn : Nat → Int32) (Umodels : Int32) (Vdegrees : Nat → Int32) (Vfactors : Nat → Int32) (Vcount : Int32) (v1 : Int32) (v2 : Int32)  (k1 : v1 < 1 ∨ ¬ v1 ≤ 9999) : vx_Met l yX6_table wsX6_table rmTX6_table (va_Pc [.ref (aU 0), .int v1, .int v2] (PreX D k ((wU k aU xI xL xS xB (aV 0) xC Uformulas Udrawn Umodels) ++ (wV k aV Vdegrees Vfactors Vcount)) sz)) NQ (XQ D k ((wU k aU xI xL xS xB (aV 0) xC Uformulas Udrawn Umodels) ++ (wV k aV Vdegrees Vfactors Vcount)) sz exA) 1 6 (va_A ((wU k aU xI xL xS xB (aV 0) xC Uformulas Udrawn Umodels) ++ (wV k aV Vdegrees Vfactors Vcount)) sz) := by
  refine vx_ofW (cc := cX6_table) (maxL := 3) (ret := (some .int)) (by decide) rfl ?_
  intro p e s m args below meth c s₁ B hml htab hv
  obtain ⟨hav, ⟨hsz, hP, hK, hD0⟩, hXP⟩ := hv
  have hx := B.exec
  have hb := B.bytes
  have hts := atoms_spec (ws := wsX6_table) B.pre
  have hown : s.vm.findClass RX6 = some m.cls := findClass_of_methodNamed B.named
  have hlocks := B.notSynchronized
  subst hsz
  have hD := hD0.self (sz := s.heap.size)
  clear hD0
  obtain ⟨A, hAe⟩ : ∃ A, va_A ((wU k aU xI xL xS xB (aV 0) xC Uformulas Udrawn Umodels) ++ (wV k aV Vdegrees Vfactors Vcount)) s.heap.size = A := ⟨_, rfl⟩
  rw [hAe] at hD hXP
  have hA : ∀ q : Nat, s.heap.size ≤ q → A q := fun q h => by rw [← hAe]; exact Or.inr h
  have hS : va_S A s.heap s.heap [] := va_S.rf
  have hl := lv_entry ([.ref (aU 0), .int v1, .int v2]) (n := 3) (Nat.le_of_ble_eq_true rfl)
  rw [show entryFrame m args 3 = entryFrame m ([.ref (aU 0), .int v1, .int v2] : List Value).toArray 3 from by rw [hav], lg_entry_eq]
  generalize (lg_sl ([.ref (aU 0), .int v1, .int v2]) ++ List.replicate (3 - (lg_sl ([.ref (aU 0), .int v1, .int v2])).length) Slot.unset).toArray = ls at hl ⊢
  replace hl : lv_has ls 3 [(0, .ref (aU 0)), (1, .int v1), (2, .int v2)] := hl
  show W p l e rmTX6_table s m args below meth c s.heap [] 0 0 _ (F0 m 0 ls [])
  suffices main : ∀ (H : Heap) (locs : List Loc) (ls : Array Slot), va_P D vwCl ((wU k aU xI xL xS xB (aV 0) xC Uformulas Udrawn Umodels) ++ (wV k aV Vdegrees Vfactors Vcount)) H → va_D A ((wU k aU xI xL xS xB (aV 0) xC Uformulas Udrawn Umodels) ++ (wV k aV Vdegrees Vfactors Vcount)) → va_S A s.heap H locs → lv_has ls 3 [(0, .ref (aU 0)), (1, .int v1), (2, .int v2)] → W p l e rmTX6_table s m args below meth c H locs 0 0 _ (F0 m 0 ls []) from main _ _ _ hP hD hS hl
  clear hP hD hS hl ls
  intro H locs ls hP hD hS hl
  refine lv_iload_n hx hb dX6_table_0 rfl (lv_at hl 1 rfl) ?_
  refine lv_iconst (v := 1) hx hb dX6_table_1 (by decide) ?_
  refine lv_sipush (v := 9999) hx hb dX6_table_2 (by decide) ?_
  have hPc := hP.sub (ws' := ([] : va_W)) [] rfl
  have hDc := hD.sub (ws' := ([] : va_W)) [] rfl rfl
  have hFc := va_free (wc := ([] : va_W)) hD hS hA [] rfl
  exact xt_v (vx_runS (As := [.int v1, .int 1, .int 9999]) (rest := []) ⟨hx, hb, hml, hown, hts⟩ (thr_X6_checkRange l hst D k H.size v1 1 9999 k1) (va_cwS 3 hts gX6_table_X6_checkRange rfl rfl rfl (by decide +kernel) ⟨Nat.le_of_ble_eq_true rfl, Nat.le_of_ble_eq_true rfl⟩) ⟨px_blind, px_start hPc hK hDc (XP.keep hXP hS.2.1) hFc⟩ rfl rfl hl.1 rfl (lv_room (Nat.le_of_ble_eq_true rfl)) dX6_table_5 ⟨Nat.le_refl _, Nat.le_refl _⟩) hAe hP hK hD hS hFc (fun H1 hP1 hD1 hk1 => vk hP hD [] rfl hk1 hP1) htab hlocks
set_option maxHeartbeats 4000000 in
set_option maxRecDepth 100000 in
theorem thr_X6_table_1 (l : Launch) (hst : l.stackTraces = false) (D : va_G) (k : Nat → ClassId) (aU : Nat → Nat) (aV : Nat → Nat) (xI xL xS xB xC : Nat) (sz : Nat) (Uformulas : Nat → Option Nat) (Udrawn : Nat → Int32) (Umodels : Int32) (Vdegrees : Nat → Int32) (Vfactors : Nat → Int32) (Vcount : Int32) (v1 : Int32) (v2 : Int32)  (k2 : fX6_checkRange v1 1 9999 = some ()) (k3 : v2 < ((-1)) ∨ ¬ v2 ≤ 999) : vx_Met l yX6_table wsX6_table rmTX6_table (va_Pc [.ref (aU 0), .int v1, .int v2] (PreX D k ((wU k aU xI xL xS xB (aV 0) xC Uformulas Udrawn Umodels) ++ (wV k aV Vdegrees Vfactors Vcount)) sz)) NQ (XQ D k ((wU k aU xI xL xS xB (aV 0) xC Uformulas Udrawn Umodels) ++ (wV k aV Vdegrees Vfactors Vcount)) sz exA) 1 6 (va_A ((wU k aU xI xL xS xB (aV 0) xC Uformulas Udrawn Umodels) ++ (wV k aV Vdegrees Vfactors Vcount)) sz) := by
  refine vx_ofW (cc := cX6_table) (maxL := 3) (ret := (some .int)) (by decide) rfl ?_
  intro p e s m args below meth c s₁ B hml htab hv
  obtain ⟨hav, ⟨hsz, hP, hK, hD0⟩, hXP⟩ := hv
  have hx := B.exec
  have hb := B.bytes
  have hts := atoms_spec (ws := wsX6_table) B.pre
  have hown : s.vm.findClass RX6 = some m.cls := findClass_of_methodNamed B.named
  have hlocks := B.notSynchronized
  subst hsz
  have hD := hD0.self (sz := s.heap.size)
  clear hD0
  obtain ⟨A, hAe⟩ : ∃ A, va_A ((wU k aU xI xL xS xB (aV 0) xC Uformulas Udrawn Umodels) ++ (wV k aV Vdegrees Vfactors Vcount)) s.heap.size = A := ⟨_, rfl⟩
  rw [hAe] at hD hXP
  have hA : ∀ q : Nat, s.heap.size ≤ q → A q := fun q h => by rw [← hAe]; exact Or.inr h
  have hS : va_S A s.heap s.heap [] := va_S.rf
  have hl := lv_entry ([.ref (aU 0), .int v1, .int v2]) (n := 3) (Nat.le_of_ble_eq_true rfl)
  rw [show entryFrame m args 3 = entryFrame m ([.ref (aU 0), .int v1, .int v2] : List Value).toArray 3 from by rw [hav], lg_entry_eq]
  generalize (lg_sl ([.ref (aU 0), .int v1, .int v2]) ++ List.replicate (3 - (lg_sl ([.ref (aU 0), .int v1, .int v2])).length) Slot.unset).toArray = ls at hl ⊢
  replace hl : lv_has ls 3 [(0, .ref (aU 0)), (1, .int v1), (2, .int v2)] := hl
  show W p l e rmTX6_table s m args below meth c s.heap [] 0 0 _ (F0 m 0 ls [])
  suffices main : ∀ (H : Heap) (locs : List Loc) (ls : Array Slot), va_P D vwCl ((wU k aU xI xL xS xB (aV 0) xC Uformulas Udrawn Umodels) ++ (wV k aV Vdegrees Vfactors Vcount)) H → va_D A ((wU k aU xI xL xS xB (aV 0) xC Uformulas Udrawn Umodels) ++ (wV k aV Vdegrees Vfactors Vcount)) → va_S A s.heap H locs → lv_has ls 3 [(0, .ref (aU 0)), (1, .int v1), (2, .int v2)] → W p l e rmTX6_table s m args below meth c H locs 0 0 _ (F0 m 0 ls []) from main _ _ _ hP hD hS hl
  clear hP hD hS hl ls
  intro H locs ls hP hD hS hl
  refine lv_iload_n hx hb dX6_table_0 rfl (lv_at hl 1 rfl) ?_
  refine lv_iconst (v := 1) hx hb dX6_table_1 (by decide) ?_
  refine lv_sipush (v := 9999) hx hb dX6_table_2 (by decide) ?_
  have hPc := hP.sub (ws' := ([] : va_W)) [] rfl
  have hDc := hD.sub (ws' := ([] : va_W)) [] rfl rfl
  have hFc := va_free (wc := ([] : va_W)) hD hS hA [] rfl
  refine xc_v (va_runS (As := [.int v1, .int 1, .int 9999]) (rest := []) ⟨hx, hb, hml, hown, hts⟩ (met_X6_checkRange l D k H.size v1 1 9999 k2) (va_cwS 3 hts gX6_table_X6_checkRange rfl rfl rfl (by decide +kernel) ⟨Nat.le_of_ble_eq_true rfl, Nat.le_of_ble_eq_true rfl⟩) ⟨pw_blind, pw_start hPc hK hDc⟩ rfl rfl hl.1 rfl (lv_room (Nat.le_of_ble_eq_true rfl)) dX6_table_5 ⟨Nat.zero_le _, Nat.zero_le _⟩) hS hFc (fun H1 locs hP1 hD1 hk1 hS => ?_)
  obtain ⟨hP, hD⟩ := vk hP hD [] rfl hk1 hP1
  clear hP1 hD1 hk1 hFc
  generalize H1 = H at hP hS ⊢
  refine lv_iload_n hx hb dX6_table_8 rfl (lv_at hl 2 rfl) ?_
  refine lv_iconst (v := -1) hx hb dX6_table_9 (by decide) ?_
  refine lv_sipush (v := 999) hx hb dX6_table_10 (by decide) ?_
  have hPc := hP.sub (ws' := ([] : va_W)) [] rfl
  have hDc := hD.sub (ws' := ([] : va_W)) [] rfl rfl
  have hFc := va_free (wc := ([] : va_W)) hD hS hA [] rfl
  exact xt_v (vx_runS (As := [.int v2, .int ((-1)), .int 999]) (rest := []) ⟨hx, hb, hml, hown, hts⟩ (thr_X6_checkRange l hst D k H.size v2 ((-1)) 999 k3) (va_cwS 3 hts gX6_table_X6_checkRange rfl rfl rfl (by decide +kernel) ⟨Nat.le_of_ble_eq_true rfl, Nat.le_of_ble_eq_true rfl⟩) ⟨px_blind, px_start hPc hK hDc (XP.keep hXP hS.2.1) hFc⟩ rfl rfl hl.1 rfl (lv_room (Nat.le_of_ble_eq_true rfl)) dX6_table_13 ⟨Nat.le_refl _, Nat.le_refl _⟩) hAe hP hK hD hS hFc (fun H1 hP1 hD1 hk1 => vk hP hD [] rfl hk1 hP1) htab hlocks
set_option maxHeartbeats 4000000 in
set_option maxRecDepth 100000 in
theorem thr_X6_table_2 (l : Launch) (hst : l.stackTraces = false) (D : va_G) (k : Nat → ClassId) (aU : Nat → Nat) (aV : Nat → Nat) (xI xL xS xB xC : Nat) (sz : Nat) (Uformulas : Nat → Option Nat) (Udrawn : Nat → Int32) (Umodels : Int32) (Vdegrees : Nat → Int32) (Vfactors : Nat → Int32) (Vcount : Int32) (v1 : Int32) (v2 : Int32) (r6 : Int32) (k2 : fX6_checkRange v1 1 9999 = some ()) (k4 : fX6_checkRange v2 ((-1)) 999 = some ()) (c5 : ¬ (v2 = ((-1)))) (k6 : fX2_hasRoomFor v1 Vdegrees Vcount = some r6) (c7 : r6 = 0) : vx_Met l yX6_table wsX6_table rmTX6_table (va_Pc [.ref (aU 0), .int v1, .int v2] (PreX D k ((wU k aU xI xL xS xB (aV 0) xC Uformulas Udrawn Umodels) ++ (wV k aV Vdegrees Vfactors Vcount)) sz)) NQ (XQ D k ((wU k aU xI xL xS xB (aV 0) xC Uformulas Udrawn Umodels) ++ (wV k aV Vdegrees Vfactors Vcount)) sz exS) 1 6 (va_A ((wU k aU xI xL xS xB (aV 0) xC Uformulas Udrawn Umodels) ++ (wV k aV Vdegrees Vfactors Vcount)) sz) := by
  refine vx_ofW (cc := cX6_table) (maxL := 3) (ret := (some .int)) (by decide) rfl ?_
  intro p e s m args below meth c s₁ B hml htab hv
  obtain ⟨hav, ⟨hsz, hP, hK, hD0⟩, hXP⟩ := hv
  have hx := B.exec
  have hb := B.bytes
  have hts := atoms_spec (ws := wsX6_table) B.pre
  have hown : s.vm.findClass RX6 = some m.cls := findClass_of_methodNamed B.named
  have hlocks := B.notSynchronized
  subst hsz
  have hD := hD0.self (sz := s.heap.size)
  clear hD0
  obtain ⟨A, hAe⟩ : ∃ A, va_A ((wU k aU xI xL xS xB (aV 0) xC Uformulas Udrawn Umodels) ++ (wV k aV Vdegrees Vfactors Vcount)) s.heap.size = A := ⟨_, rfl⟩
  rw [hAe] at hD hXP
  have hA : ∀ q : Nat, s.heap.size ≤ q → A q := fun q h => by rw [← hAe]; exact Or.inr h
  have hS : va_S A s.heap s.heap [] := va_S.rf
  have hl := lv_entry ([.ref (aU 0), .int v1, .int v2]) (n := 3) (Nat.le_of_ble_eq_true rfl)
  rw [show entryFrame m args 3 = entryFrame m ([.ref (aU 0), .int v1, .int v2] : List Value).toArray 3 from by rw [hav], lg_entry_eq]
  generalize (lg_sl ([.ref (aU 0), .int v1, .int v2]) ++ List.replicate (3 - (lg_sl ([.ref (aU 0), .int v1, .int v2])).length) Slot.unset).toArray = ls at hl ⊢
  replace hl : lv_has ls 3 [(0, .ref (aU 0)), (1, .int v1), (2, .int v2)] := hl
  have iX6 : ∀ w ∈ u_ws RX6 TX6 9, w ∈ wsX6_table := by decide +kernel
  show W p l e rmTX6_table s m args below meth c s.heap [] 0 0 _ (F0 m 0 ls [])
  suffices main : ∀ (H : Heap) (locs : List Loc) (ls : Array Slot), va_P D vwCl ((wU k aU xI xL xS xB (aV 0) xC Uformulas Udrawn Umodels) ++ (wV k aV Vdegrees Vfactors Vcount)) H → va_D A ((wU k aU xI xL xS xB (aV 0) xC Uformulas Udrawn Umodels) ++ (wV k aV Vdegrees Vfactors Vcount)) → va_S A s.heap H locs → lv_has ls 3 [(0, .ref (aU 0)), (1, .int v1), (2, .int v2)] → W p l e rmTX6_table s m args below meth c H locs 0 0 _ (F0 m 0 ls []) from main _ _ _ hP hD hS hl
  clear hP hD hS hl ls
  intro H locs ls hP hD hS hl
  refine lv_iload_n hx hb dX6_table_0 rfl (lv_at hl 1 rfl) ?_
  refine lv_iconst (v := 1) hx hb dX6_table_1 (by decide) ?_
  refine lv_sipush (v := 9999) hx hb dX6_table_2 (by decide) ?_
  have hPc := hP.sub (ws' := ([] : va_W)) [] rfl
  have hDc := hD.sub (ws' := ([] : va_W)) [] rfl rfl
  have hFc := va_free (wc := ([] : va_W)) hD hS hA [] rfl
  refine xc_v (va_runS (As := [.int v1, .int 1, .int 9999]) (rest := []) ⟨hx, hb, hml, hown, hts⟩ (met_X6_checkRange l D k H.size v1 1 9999 k2) (va_cwS 3 hts gX6_table_X6_checkRange rfl rfl rfl (by decide +kernel) ⟨Nat.le_of_ble_eq_true rfl, Nat.le_of_ble_eq_true rfl⟩) ⟨pw_blind, pw_start hPc hK hDc⟩ rfl rfl hl.1 rfl (lv_room (Nat.le_of_ble_eq_true rfl)) dX6_table_5 ⟨Nat.zero_le _, Nat.zero_le _⟩) hS hFc (fun H1 locs hP1 hD1 hk1 hS => ?_)
  obtain ⟨hP, hD⟩ := vk hP hD [] rfl hk1 hP1
  clear hP1 hD1 hk1 hFc
  generalize H1 = H at hP hS ⊢
  refine lv_iload_n hx hb dX6_table_8 rfl (lv_at hl 2 rfl) ?_
  refine lv_iconst (v := -1) hx hb dX6_table_9 (by decide) ?_
  refine lv_sipush (v := 999) hx hb dX6_table_10 (by decide) ?_
  have hPc := hP.sub (ws' := ([] : va_W)) [] rfl
  have hDc := hD.sub (ws' := ([] : va_W)) [] rfl rfl
  have hFc := va_free (wc := ([] : va_W)) hD hS hA [] rfl
  refine xc_v (va_runS (As := [.int v2, .int ((-1)), .int 999]) (rest := []) ⟨hx, hb, hml, hown, hts⟩ (met_X6_checkRange l D k H.size v2 ((-1)) 999 k4) (va_cwS 3 hts gX6_table_X6_checkRange rfl rfl rfl (by decide +kernel) ⟨Nat.le_of_ble_eq_true rfl, Nat.le_of_ble_eq_true rfl⟩) ⟨pw_blind, pw_start hPc hK hDc⟩ rfl rfl hl.1 rfl (lv_room (Nat.le_of_ble_eq_true rfl)) dX6_table_13 ⟨Nat.zero_le _, Nat.zero_le _⟩) hS hFc (fun H1 locs hP1 hD1 hk1 hS => ?_)
  obtain ⟨hP, hD⟩ := vk hP hD [] rfl hk1 hP1
  clear hP1 hD1 hk1 hFc
  generalize H1 = H at hP hS ⊢
  refine lv_iload_n hx hb dX6_table_16 rfl (lv_at hl 2 rfl) ?_
  refine lv_iconst (v := -1) hx hb dX6_table_17 (by decide) ?_
  refine lv_icmp_ne (tgt := 32) hx hb dX6_table_18 (by decide) (fun _ => ?_) (fun q => absurd q c5)
  refine lv_aload_n hx hb dX6_table_32 rfl (lv_at hl 0 rfl) ?_
  refine va_get (D := D) (ci := 6) (v := .ref (aV 0)) (C := RX6) (T := TX6) (N := 9) hx hb hts iX6 hown hK hP 0 rfl rfl 6 (by decide) (hts (.fieldLink RX6 48 "UncertainBook" "coverage" "LUncertainBook$Coverage;") (by decide +kernel)) (fun _ h9 => h9) rfl dX6_table_33 ?_
  refine lv_iload_n hx hb dX6_table_36 rfl (lv_at hl 1 rfl) ?_
  have hPc := hP.sub (ws' := (wV k aV Vdegrees Vfactors Vcount)) [3, 4, 5] rfl
  have hDc := hD.sub (ws' := (wV k aV Vdegrees Vfactors Vcount)) [3, 4, 5] rfl rfl
  have hFc := va_free (wc := (wV k aV Vdegrees Vfactors Vcount)) hD hS hA [3, 4, 5] rfl
  refine xc_i (va_runV (As := [.int v1]) (rest := []) ⟨hx, hb, hml, hown, hts⟩ (met_X2_hasRoomFor l D k aV H.size Vdegrees Vfactors Vcount v1 r6 k6) (cwV 1 hts gX6_table_X2_hasRoomFor rfl rfl rfl (by decide +kernel) ⟨Nat.le_of_ble_eq_true rfl, Nat.le_of_ble_eq_true rfl⟩) ⟨pw_blind, va_recv hK hPc (ci := 2) (q0 := 0) rfl rfl, pw_start hPc hK hDc⟩ rfl rfl hl.1 rfl (lv_room (Nat.le_of_ble_eq_true rfl)) dX6_table_37 ⟨Nat.zero_le _, Nat.zero_le _⟩) hS hFc (fun H1 locs hP1 hD1 hk1 hS => ?_)
  obtain ⟨hP, hD⟩ := vk hP hD [3, 4, 5] rfl hk1 hP1
  clear hP1 hD1 hk1 hFc
  generalize H1 = H at hP hS ⊢
  refine lv_if_eq (tgt := 55) hx hb dX6_table_40 (by decide) (fun _ => ?_) (fun q => absurd c7 q)
  obtain ⟨sa, hstr⟩ := hXP.2.2.1 (227, "the table is full") (by decide +kernel)
  have hg : ∀ w ∈ (vx_atS RX6 82 exS ["java/lang/RuntimeException", "java/lang/Exception"]).filter goodWord, w ∈ wsX6_table := by decide +kernel
  have hat : ∀ w ∈ vx_atS RX6 82 exS ["java/lang/RuntimeException", "java/lang/Exception"], w.before args s = true := vx_hat (B := [.castable exS exS, .declares (Bundle.initS "java/lang/RuntimeException"), .declares (Bundle.initS "java/lang/Exception"), .declares (Bundle.initS "java/lang/Throwable")]) (fun w hw => hts w (hg w hw)) (by decide +kernel) (vx_c (va_Nw.use rfl (hXP.2.2.2.1 exS (by decide +kernel))) (vx_c (va_Nw.use rfl (hXP.2.2.2.2 _ (by decide +kernel))) (vx_c (va_Nw.use rfl (hXP.2.2.2.2 _ (by decide +kernel))) (vx_c (va_Nw.use rfl (hXP.2.2.2.2 _ (by decide +kernel))) vx_n))))
  exact vx_throwS (own := RX6) (cls := exS) (text := "the table is full") (names := ["java/lang/RuntimeException", "java/lang/Exception"]) (ik := 78) (is := 227) (ic := 82) (sa := sa) (A := A) hx hb hst hown (by decide +kernel) (by decide +kernel) (hts (.classLink RX6 78 exS) (by decide +kernel)) (hts (.initialized exS) (by decide +kernel)) hstr hat (by decide +kernel) hXP.1 hXP.2.1 hS (hl.1.trans hml.symm) dX6_table_55 dX6_table_58 dX6_table_59 dX6_table_61 dX6_table_64 (fun x hx => (htab x hx).elim) (Nat.le_of_ble_eq_true rfl) (Nat.le_of_ble_eq_true rfl) (Nat.le_refl _) (Nat.le_refl _) hlocks (xq_of hAe hP hK hD hS) (fun z hz => by rw [hAe]; exact hS.2.2 z hz) (Nat.le_refl _) (Nat.le_refl _)
abbrev rmTX6_seed : Room := { frames := 7, cells := 1, slots := 6, locals := 140 }
set_option maxHeartbeats 4000000 in
set_option maxRecDepth 100000 in
theorem thr_X6_seed_0 (l : Launch) (hst : l.stackTraces = false) (D : va_G) (k : Nat → ClassId) (aU : Nat → Nat) (xI xL xS xB xV xC : Nat) (sz : Nat) (Uformulas : Nat → Option Nat) (Udrawn : Nat → Int32) (Umodels : Int32) (v1 : Int32)  (k1 : v1 < 0 ∨ ¬ v1 ≤ 65536) : vx_Met l yX6_seed wsX6_seed rmTX6_seed (va_Pc [.ref (aU 0), .int v1] (PreX D k (wU k aU xI xL xS xB xV xC Uformulas Udrawn Umodels) sz)) NQ (XQ D k (wU k aU xI xL xS xB xV xC Uformulas Udrawn Umodels) sz exA) 1 6 (va_A (wU k aU xI xL xS xB xV xC Uformulas Udrawn Umodels) sz) := by
  refine vx_ofW (cc := cX6_seed) (maxL := 3) (ret := (some .int)) (by decide) rfl ?_
  intro p e s m args below meth c s₁ B hml htab hv
  obtain ⟨hav, ⟨hsz, hP, hK, hD0⟩, hXP⟩ := hv
  have hx := B.exec
  have hb := B.bytes
  have hts := atoms_spec (ws := wsX6_seed) B.pre
  have hown : s.vm.findClass RX6 = some m.cls := findClass_of_methodNamed B.named
  have hlocks := B.notSynchronized
  subst hsz
  have hD := hD0.self (sz := s.heap.size)
  clear hD0
  obtain ⟨A, hAe⟩ : ∃ A, va_A (wU k aU xI xL xS xB xV xC Uformulas Udrawn Umodels) s.heap.size = A := ⟨_, rfl⟩
  rw [hAe] at hD hXP
  have hA : ∀ q : Nat, s.heap.size ≤ q → A q := fun q h => by rw [← hAe]; exact Or.inr h
  have hS : va_S A s.heap s.heap [] := va_S.rf
  have hl := lv_entry ([.ref (aU 0), .int v1]) (n := 3) (Nat.le_of_ble_eq_true rfl)
  rw [show entryFrame m args 3 = entryFrame m ([.ref (aU 0), .int v1] : List Value).toArray 3 from by rw [hav], lg_entry_eq]
  generalize (lg_sl ([.ref (aU 0), .int v1]) ++ List.replicate (3 - (lg_sl ([.ref (aU 0), .int v1])).length) Slot.unset).toArray = ls at hl ⊢
  replace hl : lv_has ls 3 [(0, .ref (aU 0)), (1, .int v1)] := hl
  show W p l e rmTX6_seed s m args below meth c s.heap [] 0 0 _ (F0 m 0 ls [])
  suffices main : ∀ (H : Heap) (locs : List Loc) (ls : Array Slot), va_P D vwCl (wU k aU xI xL xS xB xV xC Uformulas Udrawn Umodels) H → va_D A (wU k aU xI xL xS xB xV xC Uformulas Udrawn Umodels) → va_S A s.heap H locs → lv_has ls 3 [(0, .ref (aU 0)), (1, .int v1)] → W p l e rmTX6_seed s m args below meth c H locs 0 0 _ (F0 m 0 ls []) from main _ _ _ hP hD hS hl
  clear hP hD hS hl ls
  intro H locs ls hP hD hS hl
  refine lv_iload_n hx hb dX6_seed_0 rfl (lv_at hl 1 rfl) ?_
  refine lv_iconst (v := 0) hx hb dX6_seed_1 (by decide) ?_
  refine lv_ldc (v := 65536) hx hb hown (hts (.constant RX6 232 (65536)) (by decide +kernel)) dX6_seed_2 ?_
  have hPc := hP.sub (ws' := ([] : va_W)) [] rfl
  have hDc := hD.sub (ws' := ([] : va_W)) [] rfl rfl
  have hFc := va_free (wc := ([] : va_W)) hD hS hA [] rfl
  exact xt_v (vx_runS (As := [.int v1, .int 0, .int 65536]) (rest := []) ⟨hx, hb, hml, hown, hts⟩ (thr_X6_checkRange l hst D k H.size v1 0 65536 k1) (va_cwS 3 hts gX6_seed_X6_checkRange rfl rfl rfl (by decide +kernel) ⟨Nat.le_of_ble_eq_true rfl, Nat.le_of_ble_eq_true rfl⟩) ⟨px_blind, px_start hPc hK hDc (XP.keep hXP hS.2.1) hFc⟩ rfl rfl hl.1 rfl (lv_room (Nat.le_of_ble_eq_true rfl)) dX6_seed_4 ⟨Nat.le_refl _, Nat.le_refl _⟩) hAe hP hK hD hS hFc (fun H1 hP1 hD1 hk1 => vk hP hD [] rfl hk1 hP1) htab hlocks
abbrev rmTX6_draw : Room := { frames := 7, cells := 1, slots := 6, locals := 140 }
set_option maxHeartbeats 4000000 in
set_option maxRecDepth 100000 in
theorem thr_X6_draw_0 (l : Launch) (hst : l.stackTraces = false) (D : va_G) (k : Nat → ClassId) (aU : Nat → Nat) (xI xL xS xB xV xC : Nat) (sz : Nat) (Uformulas : Nat → Option Nat) (Udrawn : Nat → Int32) (Umodels : Int32) (v1 : Int32) (v2 : Int32)  (k1 : ¬ vp_in v1 8 ∨ Uformulas v1.toNatClampNeg = none) : vx_Met l yX6_draw wsX6_draw rmTX6_draw (va_Pc [.ref (aU 0), .int v1, .int v2] (PreX D k (wU k aU xI xL xS xB xV xC Uformulas Udrawn Umodels) sz)) NQ (XQ D k (wU k aU xI xL xS xB xV xC Uformulas Udrawn Umodels) sz exI) 1 6 (va_A (wU k aU xI xL xS xB xV xC Uformulas Udrawn Umodels) sz) := by
  refine vx_ofW (cc := cX6_draw) (maxL := 12) (ret := (some .int)) (by decide) rfl ?_
  intro p e s m args below meth c s₁ B hml htab hv
  obtain ⟨hav, ⟨hsz, hP, hK, hD0⟩, hXP⟩ := hv
  have hx := B.exec
  have hb := B.bytes
  have hts := atoms_spec (ws := wsX6_draw) B.pre
  have hown : s.vm.findClass RX6 = some m.cls := findClass_of_methodNamed B.named
  have hlocks := B.notSynchronized
  subst hsz
  have hD := hD0.self (sz := s.heap.size)
  clear hD0
  obtain ⟨A, hAe⟩ : ∃ A, va_A (wU k aU xI xL xS xB xV xC Uformulas Udrawn Umodels) s.heap.size = A := ⟨_, rfl⟩
  rw [hAe] at hD hXP
  have hA : ∀ q : Nat, s.heap.size ≤ q → A q := fun q h => by rw [← hAe]; exact Or.inr h
  have hS : va_S A s.heap s.heap [] := va_S.rf
  have hl := lv_entry ([.ref (aU 0), .int v1, .int v2]) (n := 12) (Nat.le_of_ble_eq_true rfl)
  rw [show entryFrame m args 12 = entryFrame m ([.ref (aU 0), .int v1, .int v2] : List Value).toArray 12 from by rw [hav], lg_entry_eq]
  generalize (lg_sl ([.ref (aU 0), .int v1, .int v2]) ++ List.replicate (12 - (lg_sl ([.ref (aU 0), .int v1, .int v2])).length) Slot.unset).toArray = ls at hl ⊢
  replace hl : lv_has ls 12 [(0, .ref (aU 0)), (1, .int v1), (2, .int v2)] := hl
  show W p l e rmTX6_draw s m args below meth c s.heap [] 0 0 _ (F0 m 0 ls [])
  suffices main : ∀ (H : Heap) (locs : List Loc) (ls : Array Slot), va_P D vwCl (wU k aU xI xL xS xB xV xC Uformulas Udrawn Umodels) H → va_D A (wU k aU xI xL xS xB xV xC Uformulas Udrawn Umodels) → va_S A s.heap H locs → lv_has ls 12 [(0, .ref (aU 0)), (1, .int v1), (2, .int v2)] → W p l e rmTX6_draw s m args below meth c H locs 0 0 _ (F0 m 0 ls []) from main _ _ _ hP hD hS hl
  clear hP hD hS hl ls
  intro H locs ls hP hD hS hl
  refine lv_aload_n hx hb dX6_draw_0 rfl (lv_at hl 0 rfl) ?_
  refine lv_iload_n hx hb dX6_draw_1 rfl (lv_at hl 1 rfl) ?_
  have hFc := va_free (wc := (wU k aU xI xL xS xB xV xC Uformulas Udrawn Umodels)) hD hS hA [0, 1, 2] rfl
  exact xt_v (vx_runV (As := [.int v1]) (rest := []) ⟨hx, hb, hml, hown, hts⟩ (thr_X6_formulaOf l hst D k aU xI xL xS xB xV xC H.size Uformulas Udrawn Umodels v1 k1) (cwV 1 hts gX6_draw_X6_formulaOf rfl rfl rfl (by decide +kernel) ⟨Nat.le_of_ble_eq_true rfl, Nat.le_of_ble_eq_true rfl⟩) ⟨px_blind, va_recv hK hP (ci := 6) (q0 := 0) rfl rfl, px_start hP hK hD (XP.keep hXP hS.2.1) hFc⟩ rfl rfl hl.1 rfl (lv_room (Nat.le_of_ble_eq_true rfl)) dX6_draw_2 ⟨Nat.le_refl _, Nat.le_refl _⟩) hAe hP hK hD hS hFc (fun H1 hP1 hD1 hk1 => vj_all hFc hP1 hD1) htab hlocks
set_option maxHeartbeats 4000000 in
set_option maxRecDepth 100000 in
theorem thr_X6_draw_1 (l : Launch) (hst : l.stackTraces = false) (D : va_G) (k : Nat → ClassId) (aU : Nat → Nat) (xI xL xS xB xV xC : Nat) (sz : Nat) (Uformulas : Nat → Option Nat) (Udrawn : Nat → Int32) (Umodels : Int32) (v1 : Int32) (v2 : Int32) (pF : Nat) (k2 : vp_in v1 8 ∧ Uformulas v1.toNatClampNeg = some pF) (k3 : v2 < 1 ∨ ¬ v2 ≤ 100) : vx_Met l yX6_draw wsX6_draw rmTX6_draw (va_Pc [.ref (aU 0), .int v1, .int v2] (PreX D k (wU k aU xI xL xS xB xV xC Uformulas Udrawn Umodels) sz)) NQ (XQ D k (wU k aU xI xL xS xB xV xC Uformulas Udrawn Umodels) sz exA) 1 6 (va_A (wU k aU xI xL xS xB xV xC Uformulas Udrawn Umodels) sz) := by
  refine vx_ofW (cc := cX6_draw) (maxL := 12) (ret := (some .int)) (by decide) rfl ?_
  intro p e s m args below meth c s₁ B hml htab hv
  obtain ⟨hav, ⟨hsz, hP, hK, hD0⟩, hXP⟩ := hv
  have hx := B.exec
  have hb := B.bytes
  have hts := atoms_spec (ws := wsX6_draw) B.pre
  have hown : s.vm.findClass RX6 = some m.cls := findClass_of_methodNamed B.named
  have hlocks := B.notSynchronized
  subst hsz
  have hD := hD0.self (sz := s.heap.size)
  clear hD0
  obtain ⟨A, hAe⟩ : ∃ A, va_A (wU k aU xI xL xS xB xV xC Uformulas Udrawn Umodels) s.heap.size = A := ⟨_, rfl⟩
  rw [hAe] at hD hXP
  have hA : ∀ q : Nat, s.heap.size ≤ q → A q := fun q h => by rw [← hAe]; exact Or.inr h
  have hS : va_S A s.heap s.heap [] := va_S.rf
  have hl := lv_entry ([.ref (aU 0), .int v1, .int v2]) (n := 12) (Nat.le_of_ble_eq_true rfl)
  rw [show entryFrame m args 12 = entryFrame m ([.ref (aU 0), .int v1, .int v2] : List Value).toArray 12 from by rw [hav], lg_entry_eq]
  generalize (lg_sl ([.ref (aU 0), .int v1, .int v2]) ++ List.replicate (12 - (lg_sl ([.ref (aU 0), .int v1, .int v2])).length) Slot.unset).toArray = ls at hl ⊢
  replace hl : lv_has ls 12 [(0, .ref (aU 0)), (1, .int v1), (2, .int v2)] := hl
  show W p l e rmTX6_draw s m args below meth c s.heap [] 0 0 _ (F0 m 0 ls [])
  suffices main : ∀ (H : Heap) (locs : List Loc) (ls : Array Slot), va_P D vwCl (wU k aU xI xL xS xB xV xC Uformulas Udrawn Umodels) H → va_D A (wU k aU xI xL xS xB xV xC Uformulas Udrawn Umodels) → va_S A s.heap H locs → lv_has ls 12 [(0, .ref (aU 0)), (1, .int v1), (2, .int v2)] → W p l e rmTX6_draw s m args below meth c H locs 0 0 _ (F0 m 0 ls []) from main _ _ _ hP hD hS hl
  clear hP hD hS hl ls
  intro H locs ls hP hD hS hl
  refine lv_aload_n hx hb dX6_draw_0 rfl (lv_at hl 0 rfl) ?_
  refine lv_iload_n hx hb dX6_draw_1 rfl (lv_at hl 1 rfl) ?_
  have hFc := va_free (wc := (wU k aU xI xL xS xB xV xC Uformulas Udrawn Umodels)) hD hS hA [0, 1, 2] rfl
  refine xc_r (va_runV (As := [.int v1]) (rest := []) ⟨hx, hb, hml, hown, hts⟩ (met_X6_formulaOf l D k aU xI xL xS xB xV xC H.size Uformulas Udrawn Umodels v1 pF k2) (cwV 1 hts gX6_draw_X6_formulaOf rfl rfl rfl (by decide +kernel) ⟨Nat.le_of_ble_eq_true rfl, Nat.le_of_ble_eq_true rfl⟩) ⟨pw_blind, va_recv hK hP (ci := 6) (q0 := 0) rfl rfl, pw_start hP hK hD⟩ rfl rfl hl.1 rfl (lv_room (Nat.le_of_ble_eq_true rfl)) dX6_draw_2 ⟨Nat.zero_le _, Nat.zero_le _⟩) hS hFc (fun H1 locs hP1 hD1 hk1 hS => ?_)
  obtain ⟨hP, hD⟩ := vj_all hFc hP1 hD1
  clear hP1 hD1 hk1 hFc
  generalize H1 = H at hP hS ⊢
  refine lv_astore_n (lv' := [(3, .ref pF), (0, .ref (aU 0)), (1, .int v1), (2, .int v2)]) hx hb dX6_draw_5 rfl hl (by decide) rfl (fun ls hl => ?_)
  refine lv_iload_n hx hb dX6_draw_6 rfl (lv_at hl 3 rfl) ?_
  refine lv_iconst (v := 1) hx hb dX6_draw_7 (by decide) ?_
  refine lv_bipush (v := 100) hx hb dX6_draw_8 (by decide) ?_
  have hPc := hP.sub (ws' := ([] : va_W)) [] rfl
  have hDc := hD.sub (ws' := ([] : va_W)) [] rfl rfl
  have hFc := va_free (wc := ([] : va_W)) hD hS hA [] rfl
  exact xt_v (vx_runS (As := [.int v2, .int 1, .int 100]) (rest := []) ⟨hx, hb, hml, hown, hts⟩ (thr_X6_checkRange l hst D k H.size v2 1 100 k3) (va_cwS 3 hts gX6_draw_X6_checkRange rfl rfl rfl (by decide +kernel) ⟨Nat.le_of_ble_eq_true rfl, Nat.le_of_ble_eq_true rfl⟩) ⟨px_blind, px_start hPc hK hDc (XP.keep hXP hS.2.1) hFc⟩ rfl rfl hl.1 rfl (lv_room (Nat.le_of_ble_eq_true rfl)) dX6_draw_10 ⟨Nat.le_refl _, Nat.le_refl _⟩) hAe hP hK hD hS hFc (fun H1 hP1 hD1 hk1 => vk hP hD [] rfl hk1 hP1) htab hlocks
