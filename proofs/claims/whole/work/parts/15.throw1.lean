abbrev rmTX6_shape : Room := { frames := 7, cells := 1, slots := 6, locals := 140 }
set_option maxHeartbeats 4000000 in
set_option maxRecDepth 100000 in
theorem thr_X6_shape_0 (l : Launch) (hst : l.stackTraces = false) (D : va_G) (k : Nat → ClassId) (aU : Nat → Nat) (xI xL xS xB xV xC : Nat) (sz : Nat) (Uformulas : Nat → Option Nat) (Udrawn : Nat → Int32) (Umodels : Int32) (v1 : Int32) (v2 : Int32) (v3 : Int32) (v4 : Int32)  (k1 : v1 < 0 ∨ ¬ v1 < 6) : vx_Met l yX6_shape wsX6_shape rmTX6_shape (va_Pc [.ref (aU 0), .int v1, .int v2, .int v3, .int v4] (PreX D k (wU k aU xI xL xS xB xV xC Uformulas Udrawn Umodels) sz)) NQ (XQ D k (wU k aU xI xL xS xB xV xC Uformulas Udrawn Umodels) sz exI) 1 6 (va_A (wU k aU xI xL xS xB xV xC Uformulas Udrawn Umodels) sz) := by
  refine vx_ofW (cc := cX6_shape) (maxL := 5) (ret := (some .int)) (by decide) rfl ?_
  intro p e s m args below meth c s₁ B hml htab hv
  obtain ⟨hav, ⟨hsz, hP, hK, hD0⟩, hXP⟩ := hv
  have hx := B.exec
  have hb := B.bytes
  have hts := atoms_spec (ws := wsX6_shape) B.pre
  have hown : s.vm.findClass RX6 = some m.cls := findClass_of_methodNamed B.named
  have hlocks := B.notSynchronized
  subst hsz
  have hD := hD0.self (sz := s.heap.size)
  clear hD0
  obtain ⟨A, hAe⟩ : ∃ A, va_A (wU k aU xI xL xS xB xV xC Uformulas Udrawn Umodels) s.heap.size = A := ⟨_, rfl⟩
  rw [hAe] at hD hXP
  have hA : ∀ q : Nat, s.heap.size ≤ q → A q := fun q h => by rw [← hAe]; exact Or.inr h
  have hS : va_S A s.heap s.heap [] := va_S.rf
  have hl := lv_entry ([.ref (aU 0), .int v1, .int v2, .int v3, .int v4]) (n := 5) (Nat.le_of_ble_eq_true rfl)
  rw [show entryFrame m args 5 = entryFrame m ([.ref (aU 0), .int v1, .int v2, .int v3, .int v4] : List Value).toArray 5 from by rw [hav], lg_entry_eq]
  generalize (lg_sl ([.ref (aU 0), .int v1, .int v2, .int v3, .int v4]) ++ List.replicate (5 - (lg_sl ([.ref (aU 0), .int v1, .int v2, .int v3, .int v4])).length) Slot.unset).toArray = ls at hl ⊢
  replace hl : lv_has ls 5 [(0, .ref (aU 0)), (1, .int v1), (2, .int v2), (3, .int v3), (4, .int v4)] := hl
  show W p l e rmTX6_shape s m args below meth c s.heap [] 0 0 _ (F0 m 0 ls [])
  suffices main : ∀ (H : Heap) (locs : List Loc) (ls : Array Slot), va_P D vwCl (wU k aU xI xL xS xB xV xC Uformulas Udrawn Umodels) H → va_D A (wU k aU xI xL xS xB xV xC Uformulas Udrawn Umodels) → va_S A s.heap H locs → lv_has ls 5 [(0, .ref (aU 0)), (1, .int v1), (2, .int v2), (3, .int v3), (4, .int v4)] → W p l e rmTX6_shape s m args below meth c H locs 0 0 _ (F0 m 0 ls []) from main _ _ _ hP hD hS hl
  clear hP hD hS hl ls
  intro H locs ls hP hD hS hl
  refine lv_iload_n hx hb dX6_shape_0 rfl (lv_at hl 1 rfl) ?_
  have hPc := hP.sub (ws' := ([] : va_W)) [] rfl
  have hDc := hD.sub (ws' := ([] : va_W)) [] rfl rfl
  have hFc := va_free (wc := ([] : va_W)) hD hS hA [] rfl
  exact xt_v (vx_runS (As := [.int v1]) (rest := []) ⟨hx, hb, hml, hown, hts⟩ (thr_X6_checkInput l hst D k H.size v1 k1) (va_cwS 1 hts gX6_shape_X6_checkInput rfl rfl rfl (by decide +kernel) ⟨Nat.le_of_ble_eq_true rfl, Nat.le_of_ble_eq_true rfl⟩) ⟨px_blind, px_start hPc hK hDc (XP.keep hXP hS.2.1) hFc⟩ rfl rfl hl.1 rfl (lv_room (Nat.le_of_ble_eq_true rfl)) dX6_shape_1 ⟨Nat.le_refl _, Nat.le_refl _⟩) hAe hP hK hD hS hFc (fun H1 hP1 hD1 hk1 => vk hP hD [] rfl hk1 hP1) htab hlocks
set_option maxHeartbeats 4000000 in
set_option maxRecDepth 100000 in
theorem thr_X6_shape_1 (l : Launch) (hst : l.stackTraces = false) (D : va_G) (k : Nat → ClassId) (aU : Nat → Nat) (xI xL xS xB xV xC : Nat) (sz : Nat) (Uformulas : Nat → Option Nat) (Udrawn : Nat → Int32) (Umodels : Int32) (v1 : Int32) (v2 : Int32) (v3 : Int32) (v4 : Int32)  (k2 : fX6_checkInput v1 = some ()) (k3 : v2 < ((-999)) ∨ ¬ v2 ≤ 999) : vx_Met l yX6_shape wsX6_shape rmTX6_shape (va_Pc [.ref (aU 0), .int v1, .int v2, .int v3, .int v4] (PreX D k (wU k aU xI xL xS xB xV xC Uformulas Udrawn Umodels) sz)) NQ (XQ D k (wU k aU xI xL xS xB xV xC Uformulas Udrawn Umodels) sz exA) 1 6 (va_A (wU k aU xI xL xS xB xV xC Uformulas Udrawn Umodels) sz) := by
  refine vx_ofW (cc := cX6_shape) (maxL := 5) (ret := (some .int)) (by decide) rfl ?_
  intro p e s m args below meth c s₁ B hml htab hv
  obtain ⟨hav, ⟨hsz, hP, hK, hD0⟩, hXP⟩ := hv
  have hx := B.exec
  have hb := B.bytes
  have hts := atoms_spec (ws := wsX6_shape) B.pre
  have hown : s.vm.findClass RX6 = some m.cls := findClass_of_methodNamed B.named
  have hlocks := B.notSynchronized
  subst hsz
  have hD := hD0.self (sz := s.heap.size)
  clear hD0
  obtain ⟨A, hAe⟩ : ∃ A, va_A (wU k aU xI xL xS xB xV xC Uformulas Udrawn Umodels) s.heap.size = A := ⟨_, rfl⟩
  rw [hAe] at hD hXP
  have hA : ∀ q : Nat, s.heap.size ≤ q → A q := fun q h => by rw [← hAe]; exact Or.inr h
  have hS : va_S A s.heap s.heap [] := va_S.rf
  have hl := lv_entry ([.ref (aU 0), .int v1, .int v2, .int v3, .int v4]) (n := 5) (Nat.le_of_ble_eq_true rfl)
  rw [show entryFrame m args 5 = entryFrame m ([.ref (aU 0), .int v1, .int v2, .int v3, .int v4] : List Value).toArray 5 from by rw [hav], lg_entry_eq]
  generalize (lg_sl ([.ref (aU 0), .int v1, .int v2, .int v3, .int v4]) ++ List.replicate (5 - (lg_sl ([.ref (aU 0), .int v1, .int v2, .int v3, .int v4])).length) Slot.unset).toArray = ls at hl ⊢
  replace hl : lv_has ls 5 [(0, .ref (aU 0)), (1, .int v1), (2, .int v2), (3, .int v3), (4, .int v4)] := hl
  show W p l e rmTX6_shape s m args below meth c s.heap [] 0 0 _ (F0 m 0 ls [])
  suffices main : ∀ (H : Heap) (locs : List Loc) (ls : Array Slot), va_P D vwCl (wU k aU xI xL xS xB xV xC Uformulas Udrawn Umodels) H → va_D A (wU k aU xI xL xS xB xV xC Uformulas Udrawn Umodels) → va_S A s.heap H locs → lv_has ls 5 [(0, .ref (aU 0)), (1, .int v1), (2, .int v2), (3, .int v3), (4, .int v4)] → W p l e rmTX6_shape s m args below meth c H locs 0 0 _ (F0 m 0 ls []) from main _ _ _ hP hD hS hl
  clear hP hD hS hl ls
  intro H locs ls hP hD hS hl
  refine lv_iload_n hx hb dX6_shape_0 rfl (lv_at hl 1 rfl) ?_
  have hPc := hP.sub (ws' := ([] : va_W)) [] rfl
  have hDc := hD.sub (ws' := ([] : va_W)) [] rfl rfl
  have hFc := va_free (wc := ([] : va_W)) hD hS hA [] rfl
  refine xc_v (va_runS (As := [.int v1]) (rest := []) ⟨hx, hb, hml, hown, hts⟩ (met_X6_checkInput l D k H.size v1 k2) (va_cwS 1 hts gX6_shape_X6_checkInput rfl rfl rfl (by decide +kernel) ⟨Nat.le_of_ble_eq_true rfl, Nat.le_of_ble_eq_true rfl⟩) ⟨pw_blind, pw_start hPc hK hDc⟩ rfl rfl hl.1 rfl (lv_room (Nat.le_of_ble_eq_true rfl)) dX6_shape_1 ⟨Nat.zero_le _, Nat.zero_le _⟩) hS hFc (fun H1 locs hP1 hD1 hk1 hS => ?_)
  obtain ⟨hP, hD⟩ := vk hP hD [] rfl hk1 hP1
  clear hP1 hD1 hk1 hFc
  generalize H1 = H at hP hS ⊢
  refine lv_iload_n hx hb dX6_shape_4 rfl (lv_at hl 2 rfl) ?_
  refine lv_sipush (v := -999) hx hb dX6_shape_5 (by decide) ?_
  refine lv_sipush (v := 999) hx hb dX6_shape_8 (by decide) ?_
  have hPc := hP.sub (ws' := ([] : va_W)) [] rfl
  have hDc := hD.sub (ws' := ([] : va_W)) [] rfl rfl
  have hFc := va_free (wc := ([] : va_W)) hD hS hA [] rfl
  exact xt_v (vx_runS (As := [.int v2, .int ((-999)), .int 999]) (rest := []) ⟨hx, hb, hml, hown, hts⟩ (thr_X6_checkRange l hst D k H.size v2 ((-999)) 999 k3) (va_cwS 3 hts gX6_shape_X6_checkRange rfl rfl rfl (by decide +kernel) ⟨Nat.le_of_ble_eq_true rfl, Nat.le_of_ble_eq_true rfl⟩) ⟨px_blind, px_start hPc hK hDc (XP.keep hXP hS.2.1) hFc⟩ rfl rfl hl.1 rfl (lv_room (Nat.le_of_ble_eq_true rfl)) dX6_shape_11 ⟨Nat.le_refl _, Nat.le_refl _⟩) hAe hP hK hD hS hFc (fun H1 hP1 hD1 hk1 => vk hP hD [] rfl hk1 hP1) htab hlocks
set_option maxHeartbeats 4000000 in
set_option maxRecDepth 100000 in
theorem thr_X6_shape_2 (l : Launch) (hst : l.stackTraces = false) (D : va_G) (k : Nat → ClassId) (aU : Nat → Nat) (xI xL xS xB xV xC : Nat) (sz : Nat) (Uformulas : Nat → Option Nat) (Udrawn : Nat → Int32) (Umodels : Int32) (v1 : Int32) (v2 : Int32) (v3 : Int32) (v4 : Int32)  (k2 : fX6_checkInput v1 = some ()) (k4 : fX6_checkRange v2 ((-999)) 999 = some ()) (k5 : v3 < 0 ∨ ¬ v3 ≤ 3) : vx_Met l yX6_shape wsX6_shape rmTX6_shape (va_Pc [.ref (aU 0), .int v1, .int v2, .int v3, .int v4] (PreX D k (wU k aU xI xL xS xB xV xC Uformulas Udrawn Umodels) sz)) NQ (XQ D k (wU k aU xI xL xS xB xV xC Uformulas Udrawn Umodels) sz exA) 1 6 (va_A (wU k aU xI xL xS xB xV xC Uformulas Udrawn Umodels) sz) := by
  refine vx_ofW (cc := cX6_shape) (maxL := 5) (ret := (some .int)) (by decide) rfl ?_
  intro p e s m args below meth c s₁ B hml htab hv
  obtain ⟨hav, ⟨hsz, hP, hK, hD0⟩, hXP⟩ := hv
  have hx := B.exec
  have hb := B.bytes
  have hts := atoms_spec (ws := wsX6_shape) B.pre
  have hown : s.vm.findClass RX6 = some m.cls := findClass_of_methodNamed B.named
  have hlocks := B.notSynchronized
  subst hsz
  have hD := hD0.self (sz := s.heap.size)
  clear hD0
  obtain ⟨A, hAe⟩ : ∃ A, va_A (wU k aU xI xL xS xB xV xC Uformulas Udrawn Umodels) s.heap.size = A := ⟨_, rfl⟩
  rw [hAe] at hD hXP
  have hA : ∀ q : Nat, s.heap.size ≤ q → A q := fun q h => by rw [← hAe]; exact Or.inr h
  have hS : va_S A s.heap s.heap [] := va_S.rf
  have hl := lv_entry ([.ref (aU 0), .int v1, .int v2, .int v3, .int v4]) (n := 5) (Nat.le_of_ble_eq_true rfl)
  rw [show entryFrame m args 5 = entryFrame m ([.ref (aU 0), .int v1, .int v2, .int v3, .int v4] : List Value).toArray 5 from by rw [hav], lg_entry_eq]
  generalize (lg_sl ([.ref (aU 0), .int v1, .int v2, .int v3, .int v4]) ++ List.replicate (5 - (lg_sl ([.ref (aU 0), .int v1, .int v2, .int v3, .int v4])).length) Slot.unset).toArray = ls at hl ⊢
  replace hl : lv_has ls 5 [(0, .ref (aU 0)), (1, .int v1), (2, .int v2), (3, .int v3), (4, .int v4)] := hl
  show W p l e rmTX6_shape s m args below meth c s.heap [] 0 0 _ (F0 m 0 ls [])
  suffices main : ∀ (H : Heap) (locs : List Loc) (ls : Array Slot), va_P D vwCl (wU k aU xI xL xS xB xV xC Uformulas Udrawn Umodels) H → va_D A (wU k aU xI xL xS xB xV xC Uformulas Udrawn Umodels) → va_S A s.heap H locs → lv_has ls 5 [(0, .ref (aU 0)), (1, .int v1), (2, .int v2), (3, .int v3), (4, .int v4)] → W p l e rmTX6_shape s m args below meth c H locs 0 0 _ (F0 m 0 ls []) from main _ _ _ hP hD hS hl
  clear hP hD hS hl ls
  intro H locs ls hP hD hS hl
  refine lv_iload_n hx hb dX6_shape_0 rfl (lv_at hl 1 rfl) ?_
  have hPc := hP.sub (ws' := ([] : va_W)) [] rfl
  have hDc := hD.sub (ws' := ([] : va_W)) [] rfl rfl
  have hFc := va_free (wc := ([] : va_W)) hD hS hA [] rfl
  refine xc_v (va_runS (As := [.int v1]) (rest := []) ⟨hx, hb, hml, hown, hts⟩ (met_X6_checkInput l D k H.size v1 k2) (va_cwS 1 hts gX6_shape_X6_checkInput rfl rfl rfl (by decide +kernel) ⟨Nat.le_of_ble_eq_true rfl, Nat.le_of_ble_eq_true rfl⟩) ⟨pw_blind, pw_start hPc hK hDc⟩ rfl rfl hl.1 rfl (lv_room (Nat.le_of_ble_eq_true rfl)) dX6_shape_1 ⟨Nat.zero_le _, Nat.zero_le _⟩) hS hFc (fun H1 locs hP1 hD1 hk1 hS => ?_)
  obtain ⟨hP, hD⟩ := vk hP hD [] rfl hk1 hP1
  clear hP1 hD1 hk1 hFc
  generalize H1 = H at hP hS ⊢
  refine lv_iload_n hx hb dX6_shape_4 rfl (lv_at hl 2 rfl) ?_
  refine lv_sipush (v := -999) hx hb dX6_shape_5 (by decide) ?_
  refine lv_sipush (v := 999) hx hb dX6_shape_8 (by decide) ?_
  have hPc := hP.sub (ws' := ([] : va_W)) [] rfl
  have hDc := hD.sub (ws' := ([] : va_W)) [] rfl rfl
  have hFc := va_free (wc := ([] : va_W)) hD hS hA [] rfl
  refine xc_v (va_runS (As := [.int v2, .int ((-999)), .int 999]) (rest := []) ⟨hx, hb, hml, hown, hts⟩ (met_X6_checkRange l D k H.size v2 ((-999)) 999 k4) (va_cwS 3 hts gX6_shape_X6_checkRange rfl rfl rfl (by decide +kernel) ⟨Nat.le_of_ble_eq_true rfl, Nat.le_of_ble_eq_true rfl⟩) ⟨pw_blind, pw_start hPc hK hDc⟩ rfl rfl hl.1 rfl (lv_room (Nat.le_of_ble_eq_true rfl)) dX6_shape_11 ⟨Nat.zero_le _, Nat.zero_le _⟩) hS hFc (fun H1 locs hP1 hD1 hk1 hS => ?_)
  obtain ⟨hP, hD⟩ := vk hP hD [] rfl hk1 hP1
  clear hP1 hD1 hk1 hFc
  generalize H1 = H at hP hS ⊢
  refine lv_iload_n hx hb dX6_shape_14 rfl (lv_at hl 3 rfl) ?_
  refine lv_iconst (v := 0) hx hb dX6_shape_15 (by decide) ?_
  refine lv_iconst (v := 3) hx hb dX6_shape_16 (by decide) ?_
  have hPc := hP.sub (ws' := ([] : va_W)) [] rfl
  have hDc := hD.sub (ws' := ([] : va_W)) [] rfl rfl
  have hFc := va_free (wc := ([] : va_W)) hD hS hA [] rfl
  exact xt_v (vx_runS (As := [.int v3, .int 0, .int 3]) (rest := []) ⟨hx, hb, hml, hown, hts⟩ (thr_X6_checkRange l hst D k H.size v3 0 3 k5) (va_cwS 3 hts gX6_shape_X6_checkRange rfl rfl rfl (by decide +kernel) ⟨Nat.le_of_ble_eq_true rfl, Nat.le_of_ble_eq_true rfl⟩) ⟨px_blind, px_start hPc hK hDc (XP.keep hXP hS.2.1) hFc⟩ rfl rfl hl.1 rfl (lv_room (Nat.le_of_ble_eq_true rfl)) dX6_shape_17 ⟨Nat.le_refl _, Nat.le_refl _⟩) hAe hP hK hD hS hFc (fun H1 hP1 hD1 hk1 => vk hP hD [] rfl hk1 hP1) htab hlocks
set_option maxHeartbeats 4000000 in
set_option maxRecDepth 100000 in
theorem thr_X6_shape_3 (l : Launch) (hst : l.stackTraces = false) (D : va_G) (k : Nat → ClassId) (aU : Nat → Nat) (xI xL xS xB xV xC : Nat) (sz : Nat) (Uformulas : Nat → Option Nat) (Udrawn : Nat → Int32) (Umodels : Int32) (v1 : Int32) (v2 : Int32) (v3 : Int32) (v4 : Int32)  (k2 : fX6_checkInput v1 = some ()) (k4 : fX6_checkRange v2 ((-999)) 999 = some ()) (k6 : fX6_checkRange v3 0 3 = some ()) (c7 : ¬ (v3 = 0)) (k8 : v4 < 0 ∨ ¬ v4 ≤ 99) : vx_Met l yX6_shape wsX6_shape rmTX6_shape (va_Pc [.ref (aU 0), .int v1, .int v2, .int v3, .int v4] (PreX D k (wU k aU xI xL xS xB xV xC Uformulas Udrawn Umodels) sz)) NQ (XQ D k (wU k aU xI xL xS xB xV xC Uformulas Udrawn Umodels) sz exA) 1 6 (va_A (wU k aU xI xL xS xB xV xC Uformulas Udrawn Umodels) sz) := by
  refine vx_ofW (cc := cX6_shape) (maxL := 5) (ret := (some .int)) (by decide) rfl ?_
  intro p e s m args below meth c s₁ B hml htab hv
  obtain ⟨hav, ⟨hsz, hP, hK, hD0⟩, hXP⟩ := hv
  have hx := B.exec
  have hb := B.bytes
  have hts := atoms_spec (ws := wsX6_shape) B.pre
  have hown : s.vm.findClass RX6 = some m.cls := findClass_of_methodNamed B.named
  have hlocks := B.notSynchronized
  subst hsz
  have hD := hD0.self (sz := s.heap.size)
  clear hD0
  obtain ⟨A, hAe⟩ : ∃ A, va_A (wU k aU xI xL xS xB xV xC Uformulas Udrawn Umodels) s.heap.size = A := ⟨_, rfl⟩
  rw [hAe] at hD hXP
  have hA : ∀ q : Nat, s.heap.size ≤ q → A q := fun q h => by rw [← hAe]; exact Or.inr h
  have hS : va_S A s.heap s.heap [] := va_S.rf
  have hl := lv_entry ([.ref (aU 0), .int v1, .int v2, .int v3, .int v4]) (n := 5) (Nat.le_of_ble_eq_true rfl)
  rw [show entryFrame m args 5 = entryFrame m ([.ref (aU 0), .int v1, .int v2, .int v3, .int v4] : List Value).toArray 5 from by rw [hav], lg_entry_eq]
  generalize (lg_sl ([.ref (aU 0), .int v1, .int v2, .int v3, .int v4]) ++ List.replicate (5 - (lg_sl ([.ref (aU 0), .int v1, .int v2, .int v3, .int v4])).length) Slot.unset).toArray = ls at hl ⊢
  replace hl : lv_has ls 5 [(0, .ref (aU 0)), (1, .int v1), (2, .int v2), (3, .int v3), (4, .int v4)] := hl
  show W p l e rmTX6_shape s m args below meth c s.heap [] 0 0 _ (F0 m 0 ls [])
  suffices main : ∀ (H : Heap) (locs : List Loc) (ls : Array Slot), va_P D vwCl (wU k aU xI xL xS xB xV xC Uformulas Udrawn Umodels) H → va_D A (wU k aU xI xL xS xB xV xC Uformulas Udrawn Umodels) → va_S A s.heap H locs → lv_has ls 5 [(0, .ref (aU 0)), (1, .int v1), (2, .int v2), (3, .int v3), (4, .int v4)] → W p l e rmTX6_shape s m args below meth c H locs 0 0 _ (F0 m 0 ls []) from main _ _ _ hP hD hS hl
  clear hP hD hS hl ls
  intro H locs ls hP hD hS hl
  refine lv_iload_n hx hb dX6_shape_0 rfl (lv_at hl 1 rfl) ?_
  have hPc := hP.sub (ws' := ([] : va_W)) [] rfl
  have hDc := hD.sub (ws' := ([] : va_W)) [] rfl rfl
  have hFc := va_free (wc := ([] : va_W)) hD hS hA [] rfl
  refine xc_v (va_runS (As := [.int v1]) (rest := []) ⟨hx, hb, hml, hown, hts⟩ (met_X6_checkInput l D k H.size v1 k2) (va_cwS 1 hts gX6_shape_X6_checkInput rfl rfl rfl (by decide +kernel) ⟨Nat.le_of_ble_eq_true rfl, Nat.le_of_ble_eq_true rfl⟩) ⟨pw_blind, pw_start hPc hK hDc⟩ rfl rfl hl.1 rfl (lv_room (Nat.le_of_ble_eq_true rfl)) dX6_shape_1 ⟨Nat.zero_le _, Nat.zero_le _⟩) hS hFc (fun H1 locs hP1 hD1 hk1 hS => ?_)
  obtain ⟨hP, hD⟩ := vk hP hD [] rfl hk1 hP1
  clear hP1 hD1 hk1 hFc
  generalize H1 = H at hP hS ⊢
  refine lv_iload_n hx hb dX6_shape_4 rfl (lv_at hl 2 rfl) ?_
  refine lv_sipush (v := -999) hx hb dX6_shape_5 (by decide) ?_
  refine lv_sipush (v := 999) hx hb dX6_shape_8 (by decide) ?_
  have hPc := hP.sub (ws' := ([] : va_W)) [] rfl
  have hDc := hD.sub (ws' := ([] : va_W)) [] rfl rfl
  have hFc := va_free (wc := ([] : va_W)) hD hS hA [] rfl
  refine xc_v (va_runS (As := [.int v2, .int ((-999)), .int 999]) (rest := []) ⟨hx, hb, hml, hown, hts⟩ (met_X6_checkRange l D k H.size v2 ((-999)) 999 k4) (va_cwS 3 hts gX6_shape_X6_checkRange rfl rfl rfl (by decide +kernel) ⟨Nat.le_of_ble_eq_true rfl, Nat.le_of_ble_eq_true rfl⟩) ⟨pw_blind, pw_start hPc hK hDc⟩ rfl rfl hl.1 rfl (lv_room (Nat.le_of_ble_eq_true rfl)) dX6_shape_11 ⟨Nat.zero_le _, Nat.zero_le _⟩) hS hFc (fun H1 locs hP1 hD1 hk1 hS => ?_)
  obtain ⟨hP, hD⟩ := vk hP hD [] rfl hk1 hP1
  clear hP1 hD1 hk1 hFc
  generalize H1 = H at hP hS ⊢
  refine lv_iload_n hx hb dX6_shape_14 rfl (lv_at hl 3 rfl) ?_
  refine lv_iconst (v := 0) hx hb dX6_shape_15 (by decide) ?_
  refine lv_iconst (v := 3) hx hb dX6_shape_16 (by decide) ?_
  have hPc := hP.sub (ws' := ([] : va_W)) [] rfl
  have hDc := hD.sub (ws' := ([] : va_W)) [] rfl rfl
  have hFc := va_free (wc := ([] : va_W)) hD hS hA [] rfl
  refine xc_v (va_runS (As := [.int v3, .int 0, .int 3]) (rest := []) ⟨hx, hb, hml, hown, hts⟩ (met_X6_checkRange l D k H.size v3 0 3 k6) (va_cwS 3 hts gX6_shape_X6_checkRange rfl rfl rfl (by decide +kernel) ⟨Nat.le_of_ble_eq_true rfl, Nat.le_of_ble_eq_true rfl⟩) ⟨pw_blind, pw_start hPc hK hDc⟩ rfl rfl hl.1 rfl (lv_room (Nat.le_of_ble_eq_true rfl)) dX6_shape_17 ⟨Nat.zero_le _, Nat.zero_le _⟩) hS hFc (fun H1 locs hP1 hD1 hk1 hS => ?_)
  obtain ⟨hP, hD⟩ := vk hP hD [] rfl hk1 hP1
  clear hP1 hD1 hk1 hFc
  generalize H1 = H at hP hS ⊢
  refine lv_iload hx hb dX6_shape_20 (lv_at hl 4 rfl) ?_
  refine lv_iconst (v := 0) hx hb dX6_shape_22 (by decide) ?_
  refine lv_iload_n hx hb dX6_shape_23 rfl (lv_at hl 3 rfl) ?_
  refine lv_if_ne (tgt := 31) hx hb dX6_shape_24 (by decide) (fun _ => ?_) (fun q => absurd q c7)
  refine lv_bipush (v := 99) hx hb dX6_shape_31 (by decide) ?_
  have hPc := hP.sub (ws' := ([] : va_W)) [] rfl
  have hDc := hD.sub (ws' := ([] : va_W)) [] rfl rfl
  have hFc := va_free (wc := ([] : va_W)) hD hS hA [] rfl
  exact xt_v (vx_runS (As := [.int v4, .int 0, .int 99]) (rest := []) ⟨hx, hb, hml, hown, hts⟩ (thr_X6_checkRange l hst D k H.size v4 0 99 k8) (va_cwS 3 hts gX6_shape_X6_checkRange rfl rfl rfl (by decide +kernel) ⟨Nat.le_of_ble_eq_true rfl, Nat.le_of_ble_eq_true rfl⟩) ⟨px_blind, px_start hPc hK hDc (XP.keep hXP hS.2.1) hFc⟩ rfl rfl hl.1 rfl (lv_room (Nat.le_of_ble_eq_true rfl)) dX6_shape_33 ⟨Nat.le_refl _, Nat.le_refl _⟩) hAe hP hK hD hS hFc (fun H1 hP1 hD1 hk1 => vk hP hD [] rfl hk1 hP1) htab hlocks
set_option maxHeartbeats 4000000 in
set_option maxRecDepth 100000 in
theorem thr_X6_shape_4 (l : Launch) (hst : l.stackTraces = false) (D : va_G) (k : Nat → ClassId) (aU : Nat → Nat) (xI xL xS xB xV xC : Nat) (sz : Nat) (Uformulas : Nat → Option Nat) (Udrawn : Nat → Int32) (Umodels : Int32) (v1 : Int32) (v2 : Int32) (v3 : Int32) (v4 : Int32)  (k2 : fX6_checkInput v1 = some ()) (k4 : fX6_checkRange v2 ((-999)) 999 = some ()) (k6 : fX6_checkRange v3 0 3 = some ()) (c7 : v3 = 0) (k8 : v4 < 0 ∨ ¬ v4 ≤ 0) : vx_Met l yX6_shape wsX6_shape rmTX6_shape (va_Pc [.ref (aU 0), .int v1, .int v2, .int v3, .int v4] (PreX D k (wU k aU xI xL xS xB xV xC Uformulas Udrawn Umodels) sz)) NQ (XQ D k (wU k aU xI xL xS xB xV xC Uformulas Udrawn Umodels) sz exA) 1 6 (va_A (wU k aU xI xL xS xB xV xC Uformulas Udrawn Umodels) sz) := by
  refine vx_ofW (cc := cX6_shape) (maxL := 5) (ret := (some .int)) (by decide) rfl ?_
  intro p e s m args below meth c s₁ B hml htab hv
  obtain ⟨hav, ⟨hsz, hP, hK, hD0⟩, hXP⟩ := hv
  have hx := B.exec
  have hb := B.bytes
  have hts := atoms_spec (ws := wsX6_shape) B.pre
  have hown : s.vm.findClass RX6 = some m.cls := findClass_of_methodNamed B.named
  have hlocks := B.notSynchronized
  subst hsz
  have hD := hD0.self (sz := s.heap.size)
  clear hD0
  obtain ⟨A, hAe⟩ : ∃ A, va_A (wU k aU xI xL xS xB xV xC Uformulas Udrawn Umodels) s.heap.size = A := ⟨_, rfl⟩
  rw [hAe] at hD hXP
  have hA : ∀ q : Nat, s.heap.size ≤ q → A q := fun q h => by rw [← hAe]; exact Or.inr h
  have hS : va_S A s.heap s.heap [] := va_S.rf
  have hl := lv_entry ([.ref (aU 0), .int v1, .int v2, .int v3, .int v4]) (n := 5) (Nat.le_of_ble_eq_true rfl)
  rw [show entryFrame m args 5 = entryFrame m ([.ref (aU 0), .int v1, .int v2, .int v3, .int v4] : List Value).toArray 5 from by rw [hav], lg_entry_eq]
  generalize (lg_sl ([.ref (aU 0), .int v1, .int v2, .int v3, .int v4]) ++ List.replicate (5 - (lg_sl ([.ref (aU 0), .int v1, .int v2, .int v3, .int v4])).length) Slot.unset).toArray = ls at hl ⊢
  replace hl : lv_has ls 5 [(0, .ref (aU 0)), (1, .int v1), (2, .int v2), (3, .int v3), (4, .int v4)] := hl
  show W p l e rmTX6_shape s m args below meth c s.heap [] 0 0 _ (F0 m 0 ls [])
  suffices main : ∀ (H : Heap) (locs : List Loc) (ls : Array Slot), va_P D vwCl (wU k aU xI xL xS xB xV xC Uformulas Udrawn Umodels) H → va_D A (wU k aU xI xL xS xB xV xC Uformulas Udrawn Umodels) → va_S A s.heap H locs → lv_has ls 5 [(0, .ref (aU 0)), (1, .int v1), (2, .int v2), (3, .int v3), (4, .int v4)] → W p l e rmTX6_shape s m args below meth c H locs 0 0 _ (F0 m 0 ls []) from main _ _ _ hP hD hS hl
  clear hP hD hS hl ls
  intro H locs ls hP hD hS hl
  refine lv_iload_n hx hb dX6_shape_0 rfl (lv_at hl 1 rfl) ?_
  have hPc := hP.sub (ws' := ([] : va_W)) [] rfl
  have hDc := hD.sub (ws' := ([] : va_W)) [] rfl rfl
  have hFc := va_free (wc := ([] : va_W)) hD hS hA [] rfl
  refine xc_v (va_runS (As := [.int v1]) (rest := []) ⟨hx, hb, hml, hown, hts⟩ (met_X6_checkInput l D k H.size v1 k2) (va_cwS 1 hts gX6_shape_X6_checkInput rfl rfl rfl (by decide +kernel) ⟨Nat.le_of_ble_eq_true rfl, Nat.le_of_ble_eq_true rfl⟩) ⟨pw_blind, pw_start hPc hK hDc⟩ rfl rfl hl.1 rfl (lv_room (Nat.le_of_ble_eq_true rfl)) dX6_shape_1 ⟨Nat.zero_le _, Nat.zero_le _⟩) hS hFc (fun H1 locs hP1 hD1 hk1 hS => ?_)
  obtain ⟨hP, hD⟩ := vk hP hD [] rfl hk1 hP1
  clear hP1 hD1 hk1 hFc
  generalize H1 = H at hP hS ⊢
  refine lv_iload_n hx hb dX6_shape_4 rfl (lv_at hl 2 rfl) ?_
  refine lv_sipush (v := -999) hx hb dX6_shape_5 (by decide) ?_
  refine lv_sipush (v := 999) hx hb dX6_shape_8 (by decide) ?_
  have hPc := hP.sub (ws' := ([] : va_W)) [] rfl
  have hDc := hD.sub (ws' := ([] : va_W)) [] rfl rfl
  have hFc := va_free (wc := ([] : va_W)) hD hS hA [] rfl
  refine xc_v (va_runS (As := [.int v2, .int ((-999)), .int 999]) (rest := []) ⟨hx, hb, hml, hown, hts⟩ (met_X6_checkRange l D k H.size v2 ((-999)) 999 k4) (va_cwS 3 hts gX6_shape_X6_checkRange rfl rfl rfl (by decide +kernel) ⟨Nat.le_of_ble_eq_true rfl, Nat.le_of_ble_eq_true rfl⟩) ⟨pw_blind, pw_start hPc hK hDc⟩ rfl rfl hl.1 rfl (lv_room (Nat.le_of_ble_eq_true rfl)) dX6_shape_11 ⟨Nat.zero_le _, Nat.zero_le _⟩) hS hFc (fun H1 locs hP1 hD1 hk1 hS => ?_)
  obtain ⟨hP, hD⟩ := vk hP hD [] rfl hk1 hP1
  clear hP1 hD1 hk1 hFc
  generalize H1 = H at hP hS ⊢
  refine lv_iload_n hx hb dX6_shape_14 rfl (lv_at hl 3 rfl) ?_
  refine lv_iconst (v := 0) hx hb dX6_shape_15 (by decide) ?_
  refine lv_iconst (v := 3) hx hb dX6_shape_16 (by decide) ?_
  have hPc := hP.sub (ws' := ([] : va_W)) [] rfl
  have hDc := hD.sub (ws' := ([] : va_W)) [] rfl rfl
  have hFc := va_free (wc := ([] : va_W)) hD hS hA [] rfl
  refine xc_v (va_runS (As := [.int v3, .int 0, .int 3]) (rest := []) ⟨hx, hb, hml, hown, hts⟩ (met_X6_checkRange l D k H.size v3 0 3 k6) (va_cwS 3 hts gX6_shape_X6_checkRange rfl rfl rfl (by decide +kernel) ⟨Nat.le_of_ble_eq_true rfl, Nat.le_of_ble_eq_true rfl⟩) ⟨pw_blind, pw_start hPc hK hDc⟩ rfl rfl hl.1 rfl (lv_room (Nat.le_of_ble_eq_true rfl)) dX6_shape_17 ⟨Nat.zero_le _, Nat.zero_le _⟩) hS hFc (fun H1 locs hP1 hD1 hk1 hS => ?_)
  obtain ⟨hP, hD⟩ := vk hP hD [] rfl hk1 hP1
  clear hP1 hD1 hk1 hFc
  generalize H1 = H at hP hS ⊢
  refine lv_iload hx hb dX6_shape_20 (lv_at hl 4 rfl) ?_
  refine lv_iconst (v := 0) hx hb dX6_shape_22 (by decide) ?_
  refine lv_iload_n hx hb dX6_shape_23 rfl (lv_at hl 3 rfl) ?_
  refine lv_if_ne (tgt := 31) hx hb dX6_shape_24 (by decide) (fun q => absurd c7 q) (fun _ => ?_)
  refine lv_iconst (v := 0) hx hb dX6_shape_27 (by decide) ?_
  refine lv_goto (tgt := 33) hx hb dX6_shape_28 (by decide) ?_
  have hPc := hP.sub (ws' := ([] : va_W)) [] rfl
  have hDc := hD.sub (ws' := ([] : va_W)) [] rfl rfl
  have hFc := va_free (wc := ([] : va_W)) hD hS hA [] rfl
  exact xt_v (vx_runS (As := [.int v4, .int 0, .int 0]) (rest := []) ⟨hx, hb, hml, hown, hts⟩ (thr_X6_checkRange l hst D k H.size v4 0 0 k8) (va_cwS 3 hts gX6_shape_X6_checkRange rfl rfl rfl (by decide +kernel) ⟨Nat.le_of_ble_eq_true rfl, Nat.le_of_ble_eq_true rfl⟩) ⟨px_blind, px_start hPc hK hDc (XP.keep hXP hS.2.1) hFc⟩ rfl rfl hl.1 rfl (lv_room (Nat.le_of_ble_eq_true rfl)) dX6_shape_33 ⟨Nat.le_refl _, Nat.le_refl _⟩) hAe hP hK hD hS hFc (fun H1 hP1 hD1 hk1 => vk hP hD [] rfl hk1 hP1) htab hlocks
abbrev rmTX6_read : Room := { frames := 7, cells := 1, slots := 6, locals := 140 }
set_option maxHeartbeats 4000000 in
set_option maxRecDepth 100000 in
theorem thr_X6_read_0 (l : Launch) (hst : l.stackTraces = false) (D : va_G) (k : Nat → ClassId) (aU : Nat → Nat) (aI : Nat → Nat) (xL xS xB xV xC : Nat) (sz : Nat) (Uformulas : Nat → Option Nat) (Udrawn : Nat → Int32) (Umodels : Int32) (Iestimates : Nat → Int32) (Ivariances : Nat → Int32) (Isorts : Nat → Int32) (Iwidths : Nat → Int32) (Icounts : Nat → Int32) (Ireadings : Nat → Nat → Int32) (Ifirsts : Nat → Int32) (Iseconds : Nat → Int32) (Icovariances : Nat → Nat → Int32) (v1 : Int32) (v2 : Int32)  (k1 : v1 < 0 ∨ ¬ v1 < 6) : vx_Met l yX6_read wsX6_read rmTX6_read (va_Pc [.ref (aU 0), .int v1, .int v2] (PreX D k ((wU k aU (aI 0) xL xS xB xV xC Uformulas Udrawn Umodels) ++ (wI k aI Iestimates Ivariances Isorts Iwidths Icounts Ireadings Ifirsts Iseconds Icovariances)) sz)) NQ (XQ D k ((wU k aU (aI 0) xL xS xB xV xC Uformulas Udrawn Umodels) ++ (wI k aI Iestimates Ivariances Isorts Iwidths Icounts Ireadings Ifirsts Iseconds Icovariances)) sz exI) 1 6 (va_A ((wU k aU (aI 0) xL xS xB xV xC Uformulas Udrawn Umodels) ++ (wI k aI Iestimates Ivariances Isorts Iwidths Icounts Ireadings Ifirsts Iseconds Icovariances)) sz) := by
  refine vx_ofW (cc := cX6_read) (maxL := 3) (ret := (some .int)) (by decide) rfl ?_
  intro p e s m args below meth c s₁ B hml htab hv
  obtain ⟨hav, ⟨hsz, hP, hK, hD0⟩, hXP⟩ := hv
  have hx := B.exec
  have hb := B.bytes
  have hts := atoms_spec (ws := wsX6_read) B.pre
  have hown : s.vm.findClass RX6 = some m.cls := findClass_of_methodNamed B.named
  have hlocks := B.notSynchronized
  subst hsz
  have hD := hD0.self (sz := s.heap.size)
  clear hD0
  obtain ⟨A, hAe⟩ : ∃ A, va_A ((wU k aU (aI 0) xL xS xB xV xC Uformulas Udrawn Umodels) ++ (wI k aI Iestimates Ivariances Isorts Iwidths Icounts Ireadings Ifirsts Iseconds Icovariances)) s.heap.size = A := ⟨_, rfl⟩
  rw [hAe] at hD hXP
  have hA : ∀ q : Nat, s.heap.size ≤ q → A q := fun q h => by rw [← hAe]; exact Or.inr h
  have hS : va_S A s.heap s.heap [] := va_S.rf
  have hl := lv_entry ([.ref (aU 0), .int v1, .int v2]) (n := 3) (Nat.le_of_ble_eq_true rfl)
  rw [show entryFrame m args 3 = entryFrame m ([.ref (aU 0), .int v1, .int v2] : List Value).toArray 3 from by rw [hav], lg_entry_eq]
  generalize (lg_sl ([.ref (aU 0), .int v1, .int v2]) ++ List.replicate (3 - (lg_sl ([.ref (aU 0), .int v1, .int v2])).length) Slot.unset).toArray = ls at hl ⊢
  replace hl : lv_has ls 3 [(0, .ref (aU 0)), (1, .int v1), (2, .int v2)] := hl
  show W p l e rmTX6_read s m args below meth c s.heap [] 0 0 _ (F0 m 0 ls [])
  suffices main : ∀ (H : Heap) (locs : List Loc) (ls : Array Slot), va_P D vwCl ((wU k aU (aI 0) xL xS xB xV xC Uformulas Udrawn Umodels) ++ (wI k aI Iestimates Ivariances Isorts Iwidths Icounts Ireadings Ifirsts Iseconds Icovariances)) H → va_D A ((wU k aU (aI 0) xL xS xB xV xC Uformulas Udrawn Umodels) ++ (wI k aI Iestimates Ivariances Isorts Iwidths Icounts Ireadings Ifirsts Iseconds Icovariances)) → va_S A s.heap H locs → lv_has ls 3 [(0, .ref (aU 0)), (1, .int v1), (2, .int v2)] → W p l e rmTX6_read s m args below meth c H locs 0 0 _ (F0 m 0 ls []) from main _ _ _ hP hD hS hl
  clear hP hD hS hl ls
  intro H locs ls hP hD hS hl
  refine lv_iload_n hx hb dX6_read_0 rfl (lv_at hl 1 rfl) ?_
  have hPc := hP.sub (ws' := ([] : va_W)) [] rfl
  have hDc := hD.sub (ws' := ([] : va_W)) [] rfl rfl
  have hFc := va_free (wc := ([] : va_W)) hD hS hA [] rfl
  exact xt_v (vx_runS (As := [.int v1]) (rest := []) ⟨hx, hb, hml, hown, hts⟩ (thr_X6_checkInput l hst D k H.size v1 k1) (va_cwS 1 hts gX6_read_X6_checkInput rfl rfl rfl (by decide +kernel) ⟨Nat.le_of_ble_eq_true rfl, Nat.le_of_ble_eq_true rfl⟩) ⟨px_blind, px_start hPc hK hDc (XP.keep hXP hS.2.1) hFc⟩ rfl rfl hl.1 rfl (lv_room (Nat.le_of_ble_eq_true rfl)) dX6_read_1 ⟨Nat.le_refl _, Nat.le_refl _⟩) hAe hP hK hD hS hFc (fun H1 hP1 hD1 hk1 => vk hP hD [] rfl hk1 hP1) htab hlocks
set_option maxHeartbeats 4000000 in
set_option maxRecDepth 100000 in
theorem thr_X6_read_1 (l : Launch) (hst : l.stackTraces = false) (D : va_G) (k : Nat → ClassId) (aU : Nat → Nat) (aI : Nat → Nat) (xL xS xB xV xC : Nat) (sz : Nat) (Uformulas : Nat → Option Nat) (Udrawn : Nat → Int32) (Umodels : Int32) (Iestimates : Nat → Int32) (Ivariances : Nat → Int32) (Isorts : Nat → Int32) (Iwidths : Nat → Int32) (Icounts : Nat → Int32) (Ireadings : Nat → Nat → Int32) (Ifirsts : Nat → Int32) (Iseconds : Nat → Int32) (Icovariances : Nat → Nat → Int32) (v1 : Int32) (v2 : Int32)  (k2 : fX6_checkInput v1 = some ()) (k3 : v2 < ((-999)) ∨ ¬ v2 ≤ 999) : vx_Met l yX6_read wsX6_read rmTX6_read (va_Pc [.ref (aU 0), .int v1, .int v2] (PreX D k ((wU k aU (aI 0) xL xS xB xV xC Uformulas Udrawn Umodels) ++ (wI k aI Iestimates Ivariances Isorts Iwidths Icounts Ireadings Ifirsts Iseconds Icovariances)) sz)) NQ (XQ D k ((wU k aU (aI 0) xL xS xB xV xC Uformulas Udrawn Umodels) ++ (wI k aI Iestimates Ivariances Isorts Iwidths Icounts Ireadings Ifirsts Iseconds Icovariances)) sz exA) 1 6 (va_A ((wU k aU (aI 0) xL xS xB xV xC Uformulas Udrawn Umodels) ++ (wI k aI Iestimates Ivariances Isorts Iwidths Icounts Ireadings Ifirsts Iseconds Icovariances)) sz) := by
  refine vx_ofW (cc := cX6_read) (maxL := 3) (ret := (some .int)) (by decide) rfl ?_
  intro p e s m args below meth c s₁ B hml htab hv
  obtain ⟨hav, ⟨hsz, hP, hK, hD0⟩, hXP⟩ := hv
  have hx := B.exec
  have hb := B.bytes
  have hts := atoms_spec (ws := wsX6_read) B.pre
  have hown : s.vm.findClass RX6 = some m.cls := findClass_of_methodNamed B.named
  have hlocks := B.notSynchronized
  subst hsz
  have hD := hD0.self (sz := s.heap.size)
  clear hD0
  obtain ⟨A, hAe⟩ : ∃ A, va_A ((wU k aU (aI 0) xL xS xB xV xC Uformulas Udrawn Umodels) ++ (wI k aI Iestimates Ivariances Isorts Iwidths Icounts Ireadings Ifirsts Iseconds Icovariances)) s.heap.size = A := ⟨_, rfl⟩
  rw [hAe] at hD hXP
  have hA : ∀ q : Nat, s.heap.size ≤ q → A q := fun q h => by rw [← hAe]; exact Or.inr h
  have hS : va_S A s.heap s.heap [] := va_S.rf
  have hl := lv_entry ([.ref (aU 0), .int v1, .int v2]) (n := 3) (Nat.le_of_ble_eq_true rfl)
  rw [show entryFrame m args 3 = entryFrame m ([.ref (aU 0), .int v1, .int v2] : List Value).toArray 3 from by rw [hav], lg_entry_eq]
  generalize (lg_sl ([.ref (aU 0), .int v1, .int v2]) ++ List.replicate (3 - (lg_sl ([.ref (aU 0), .int v1, .int v2])).length) Slot.unset).toArray = ls at hl ⊢
  replace hl : lv_has ls 3 [(0, .ref (aU 0)), (1, .int v1), (2, .int v2)] := hl
  show W p l e rmTX6_read s m args below meth c s.heap [] 0 0 _ (F0 m 0 ls [])
  suffices main : ∀ (H : Heap) (locs : List Loc) (ls : Array Slot), va_P D vwCl ((wU k aU (aI 0) xL xS xB xV xC Uformulas Udrawn Umodels) ++ (wI k aI Iestimates Ivariances Isorts Iwidths Icounts Ireadings Ifirsts Iseconds Icovariances)) H → va_D A ((wU k aU (aI 0) xL xS xB xV xC Uformulas Udrawn Umodels) ++ (wI k aI Iestimates Ivariances Isorts Iwidths Icounts Ireadings Ifirsts Iseconds Icovariances)) → va_S A s.heap H locs → lv_has ls 3 [(0, .ref (aU 0)), (1, .int v1), (2, .int v2)] → W p l e rmTX6_read s m args below meth c H locs 0 0 _ (F0 m 0 ls []) from main _ _ _ hP hD hS hl
  clear hP hD hS hl ls
  intro H locs ls hP hD hS hl
  refine lv_iload_n hx hb dX6_read_0 rfl (lv_at hl 1 rfl) ?_
  have hPc := hP.sub (ws' := ([] : va_W)) [] rfl
  have hDc := hD.sub (ws' := ([] : va_W)) [] rfl rfl
  have hFc := va_free (wc := ([] : va_W)) hD hS hA [] rfl
  refine xc_v (va_runS (As := [.int v1]) (rest := []) ⟨hx, hb, hml, hown, hts⟩ (met_X6_checkInput l D k H.size v1 k2) (va_cwS 1 hts gX6_read_X6_checkInput rfl rfl rfl (by decide +kernel) ⟨Nat.le_of_ble_eq_true rfl, Nat.le_of_ble_eq_true rfl⟩) ⟨pw_blind, pw_start hPc hK hDc⟩ rfl rfl hl.1 rfl (lv_room (Nat.le_of_ble_eq_true rfl)) dX6_read_1 ⟨Nat.zero_le _, Nat.zero_le _⟩) hS hFc (fun H1 locs hP1 hD1 hk1 hS => ?_)
  obtain ⟨hP, hD⟩ := vk hP hD [] rfl hk1 hP1
  clear hP1 hD1 hk1 hFc
  generalize H1 = H at hP hS ⊢
  refine lv_iload_n hx hb dX6_read_4 rfl (lv_at hl 2 rfl) ?_
  refine lv_sipush (v := -999) hx hb dX6_read_5 (by decide) ?_
  refine lv_sipush (v := 999) hx hb dX6_read_8 (by decide) ?_
  have hPc := hP.sub (ws' := ([] : va_W)) [] rfl
  have hDc := hD.sub (ws' := ([] : va_W)) [] rfl rfl
  have hFc := va_free (wc := ([] : va_W)) hD hS hA [] rfl
  exact xt_v (vx_runS (As := [.int v2, .int ((-999)), .int 999]) (rest := []) ⟨hx, hb, hml, hown, hts⟩ (thr_X6_checkRange l hst D k H.size v2 ((-999)) 999 k3) (va_cwS 3 hts gX6_read_X6_checkRange rfl rfl rfl (by decide +kernel) ⟨Nat.le_of_ble_eq_true rfl, Nat.le_of_ble_eq_true rfl⟩) ⟨px_blind, px_start hPc hK hDc (XP.keep hXP hS.2.1) hFc⟩ rfl rfl hl.1 rfl (lv_room (Nat.le_of_ble_eq_true rfl)) dX6_read_11 ⟨Nat.le_refl _, Nat.le_refl _⟩) hAe hP hK hD hS hFc (fun H1 hP1 hD1 hk1 => vk hP hD [] rfl hk1 hP1) htab hlocks
set_option maxHeartbeats 4000000 in
set_option maxRecDepth 100000 in
theorem thr_X6_read_2 (l : Launch) (hst : l.stackTraces = false) (D : va_G) (k : Nat → ClassId) (aU : Nat → Nat) (aI : Nat → Nat) (xL xS xB xV xC : Nat) (sz : Nat) (Uformulas : Nat → Option Nat) (Udrawn : Nat → Int32) (Umodels : Int32) (Iestimates : Nat → Int32) (Ivariances : Nat → Int32) (Isorts : Nat → Int32) (Iwidths : Nat → Int32) (Icounts : Nat → Int32) (Ireadings : Nat → Nat → Int32) (Ifirsts : Nat → Int32) (Iseconds : Nat → Int32) (Icovariances : Nat → Nat → Int32) (v1 : Int32) (v2 : Int32)  (k2 : fX6_checkInput v1 = some ()) (k4 : fX6_checkRange v2 ((-999)) 999 = some ()) (hi5 : vp_in v1 6) (c6 : ¬ ((Icounts v1.toNatClampNeg) < 8)) : vx_Met l yX6_read wsX6_read rmTX6_read (va_Pc [.ref (aU 0), .int v1, .int v2] (PreX D k ((wU k aU (aI 0) xL xS xB xV xC Uformulas Udrawn Umodels) ++ (wI k aI Iestimates Ivariances Isorts Iwidths Icounts Ireadings Ifirsts Iseconds Icovariances)) sz)) NQ (XQ D k ((wU k aU (aI 0) xL xS xB xV xC Uformulas Udrawn Umodels) ++ (wI k aI Iestimates Ivariances Isorts Iwidths Icounts Ireadings Ifirsts Iseconds Icovariances)) sz exS) 1 6 (va_A ((wU k aU (aI 0) xL xS xB xV xC Uformulas Udrawn Umodels) ++ (wI k aI Iestimates Ivariances Isorts Iwidths Icounts Ireadings Ifirsts Iseconds Icovariances)) sz) := by
  refine vx_ofW (cc := cX6_read) (maxL := 3) (ret := (some .int)) (by decide) rfl ?_
  intro p e s m args below meth c s₁ B hml htab hv
  obtain ⟨hav, ⟨hsz, hP, hK, hD0⟩, hXP⟩ := hv
  have hx := B.exec
  have hb := B.bytes
  have hts := atoms_spec (ws := wsX6_read) B.pre
  have hown : s.vm.findClass RX6 = some m.cls := findClass_of_methodNamed B.named
  have hlocks := B.notSynchronized
  subst hsz
  have hD := hD0.self (sz := s.heap.size)
  clear hD0
  obtain ⟨A, hAe⟩ : ∃ A, va_A ((wU k aU (aI 0) xL xS xB xV xC Uformulas Udrawn Umodels) ++ (wI k aI Iestimates Ivariances Isorts Iwidths Icounts Ireadings Ifirsts Iseconds Icovariances)) s.heap.size = A := ⟨_, rfl⟩
  rw [hAe] at hD hXP
  have hA : ∀ q : Nat, s.heap.size ≤ q → A q := fun q h => by rw [← hAe]; exact Or.inr h
  have hS : va_S A s.heap s.heap [] := va_S.rf
  have hl := lv_entry ([.ref (aU 0), .int v1, .int v2]) (n := 3) (Nat.le_of_ble_eq_true rfl)
  rw [show entryFrame m args 3 = entryFrame m ([.ref (aU 0), .int v1, .int v2] : List Value).toArray 3 from by rw [hav], lg_entry_eq]
  generalize (lg_sl ([.ref (aU 0), .int v1, .int v2]) ++ List.replicate (3 - (lg_sl ([.ref (aU 0), .int v1, .int v2])).length) Slot.unset).toArray = ls at hl ⊢
  replace hl : lv_has ls 3 [(0, .ref (aU 0)), (1, .int v1), (2, .int v2)] := hl
  have iX6 : ∀ w ∈ u_ws RX6 TX6 9, w ∈ wsX6_read := by decide +kernel
  have iX4 : ∀ w ∈ u_ws RX4 TX4 9, w ∈ wsX6_read := by decide +kernel
  show W p l e rmTX6_read s m args below meth c s.heap [] 0 0 _ (F0 m 0 ls [])
  suffices main : ∀ (H : Heap) (locs : List Loc) (ls : Array Slot), va_P D vwCl ((wU k aU (aI 0) xL xS xB xV xC Uformulas Udrawn Umodels) ++ (wI k aI Iestimates Ivariances Isorts Iwidths Icounts Ireadings Ifirsts Iseconds Icovariances)) H → va_D A ((wU k aU (aI 0) xL xS xB xV xC Uformulas Udrawn Umodels) ++ (wI k aI Iestimates Ivariances Isorts Iwidths Icounts Ireadings Ifirsts Iseconds Icovariances)) → va_S A s.heap H locs → lv_has ls 3 [(0, .ref (aU 0)), (1, .int v1), (2, .int v2)] → W p l e rmTX6_read s m args below meth c H locs 0 0 _ (F0 m 0 ls []) from main _ _ _ hP hD hS hl
  clear hP hD hS hl ls
  intro H locs ls hP hD hS hl
  refine lv_iload_n hx hb dX6_read_0 rfl (lv_at hl 1 rfl) ?_
  have hPc := hP.sub (ws' := ([] : va_W)) [] rfl
  have hDc := hD.sub (ws' := ([] : va_W)) [] rfl rfl
  have hFc := va_free (wc := ([] : va_W)) hD hS hA [] rfl
  refine xc_v (va_runS (As := [.int v1]) (rest := []) ⟨hx, hb, hml, hown, hts⟩ (met_X6_checkInput l D k H.size v1 k2) (va_cwS 1 hts gX6_read_X6_checkInput rfl rfl rfl (by decide +kernel) ⟨Nat.le_of_ble_eq_true rfl, Nat.le_of_ble_eq_true rfl⟩) ⟨pw_blind, pw_start hPc hK hDc⟩ rfl rfl hl.1 rfl (lv_room (Nat.le_of_ble_eq_true rfl)) dX6_read_1 ⟨Nat.zero_le _, Nat.zero_le _⟩) hS hFc (fun H1 locs hP1 hD1 hk1 hS => ?_)
  obtain ⟨hP, hD⟩ := vk hP hD [] rfl hk1 hP1
  clear hP1 hD1 hk1 hFc
  generalize H1 = H at hP hS ⊢
  refine lv_iload_n hx hb dX6_read_4 rfl (lv_at hl 2 rfl) ?_
  refine lv_sipush (v := -999) hx hb dX6_read_5 (by decide) ?_
  refine lv_sipush (v := 999) hx hb dX6_read_8 (by decide) ?_
  have hPc := hP.sub (ws' := ([] : va_W)) [] rfl
  have hDc := hD.sub (ws' := ([] : va_W)) [] rfl rfl
  have hFc := va_free (wc := ([] : va_W)) hD hS hA [] rfl
  refine xc_v (va_runS (As := [.int v2, .int ((-999)), .int 999]) (rest := []) ⟨hx, hb, hml, hown, hts⟩ (met_X6_checkRange l D k H.size v2 ((-999)) 999 k4) (va_cwS 3 hts gX6_read_X6_checkRange rfl rfl rfl (by decide +kernel) ⟨Nat.le_of_ble_eq_true rfl, Nat.le_of_ble_eq_true rfl⟩) ⟨pw_blind, pw_start hPc hK hDc⟩ rfl rfl hl.1 rfl (lv_room (Nat.le_of_ble_eq_true rfl)) dX6_read_11 ⟨Nat.zero_le _, Nat.zero_le _⟩) hS hFc (fun H1 locs hP1 hD1 hk1 hS => ?_)
  obtain ⟨hP, hD⟩ := vk hP hD [] rfl hk1 hP1
  clear hP1 hD1 hk1 hFc
  generalize H1 = H at hP hS ⊢
  refine lv_aload_n hx hb dX6_read_14 rfl (lv_at hl 0 rfl) ?_
  refine va_get (D := D) (ci := 6) (v := .ref (aI 0)) (C := RX6) (T := TX6) (N := 9) hx hb hts iX6 hown hK hP 0 rfl rfl 0 (by decide) (hts (.fieldLink RX6 10 "UncertainBook" "inputs" "LUncertainBook$Inputs;") (by decide +kernel)) (fun _ h9 => h9) rfl dX6_read_15 ?_
  refine va_get (D := D) (ci := 4) (v := .ref (aI 5)) (C := RX4) (T := TX4) (N := 9) hx hb hts iX4 hown hK hP 3 rfl rfl 4 (by decide) (hts (.fieldLink RX6 75 "UncertainBook$Inputs" "counts" "[I") (by decide +kernel)) (fun _ h9 => h9) rfl dX6_read_18 ?_
  refine lv_iload_n hx hb dX6_read_21 rfl (lv_at hl 1 rfl) ?_
  refine va_iald hx hb hK hP 8 0 rfl rfl hi5 dX6_read_22 ?_
  refine lv_bipush (v := 8) hx hb dX6_read_23 (by decide) ?_
  refine lv_icmp_lt (tgt := 38) hx hb dX6_read_25 (by decide) (fun q => absurd q c6) (fun _ => ?_)
  obtain ⟨sa, hstr⟩ := hXP.2.2.1 (80, "the input has all its readings") (by decide +kernel)
  have hg : ∀ w ∈ (vx_atS RX6 82 exS ["java/lang/RuntimeException", "java/lang/Exception"]).filter goodWord, w ∈ wsX6_read := by decide +kernel
  have hat : ∀ w ∈ vx_atS RX6 82 exS ["java/lang/RuntimeException", "java/lang/Exception"], w.before args s = true := vx_hat (B := [.castable exS exS, .declares (Bundle.initS "java/lang/RuntimeException"), .declares (Bundle.initS "java/lang/Exception"), .declares (Bundle.initS "java/lang/Throwable")]) (fun w hw => hts w (hg w hw)) (by decide +kernel) (vx_c (va_Nw.use rfl (hXP.2.2.2.1 exS (by decide +kernel))) (vx_c (va_Nw.use rfl (hXP.2.2.2.2 _ (by decide +kernel))) (vx_c (va_Nw.use rfl (hXP.2.2.2.2 _ (by decide +kernel))) (vx_c (va_Nw.use rfl (hXP.2.2.2.2 _ (by decide +kernel))) vx_n))))
  exact vx_throwS (own := RX6) (cls := exS) (text := "the input has all its readings") (names := ["java/lang/RuntimeException", "java/lang/Exception"]) (ik := 78) (is := 80) (ic := 82) (sa := sa) (A := A) hx hb hst hown (by decide +kernel) (by decide +kernel) (hts (.classLink RX6 78 exS) (by decide +kernel)) (hts (.initialized exS) (by decide +kernel)) hstr hat (by decide +kernel) hXP.1 hXP.2.1 hS (hl.1.trans hml.symm) dX6_read_28 dX6_read_31 dX6_read_32 dX6_read_34 dX6_read_37 (fun x hx => (htab x hx).elim) (Nat.le_of_ble_eq_true rfl) (Nat.le_of_ble_eq_true rfl) (Nat.le_refl _) (Nat.le_refl _) hlocks (xq_of hAe hP hK hD hS) (fun z hz => by rw [hAe]; exact hS.2.2 z hz) (Nat.le_refl _) (Nat.le_refl _)
abbrev rmTX6_unit : Room := { frames := 7, cells := 1, slots := 6, locals := 140 }
set_option maxHeartbeats 4000000 in
set_option maxRecDepth 100000 in
theorem thr_X6_unit_0 (l : Launch) (hst : l.stackTraces = false) (D : va_G) (k : Nat → ClassId) (aU : Nat → Nat) (xI xL xS xB xV xC : Nat) (sz : Nat) (Uformulas : Nat → Option Nat) (Udrawn : Nat → Int32) (Umodels : Int32) (v1 : Int32) (v2 : Int32) (v3 : Int32)  (k1 : v1 < 0 ∨ ¬ v1 < 6) : vx_Met l yX6_unit wsX6_unit rmTX6_unit (va_Pc [.ref (aU 0), .int v1, .int v2, .int v3] (PreX D k (wU k aU xI xL xS xB xV xC Uformulas Udrawn Umodels) sz)) NQ (XQ D k (wU k aU xI xL xS xB xV xC Uformulas Udrawn Umodels) sz exI) 1 6 (va_A (wU k aU xI xL xS xB xV xC Uformulas Udrawn Umodels) sz) := by
  refine vx_ofW (cc := cX6_unit) (maxL := 4) (ret := (some .int)) (by decide) rfl ?_
  intro p e s m args below meth c s₁ B hml htab hv
  obtain ⟨hav, ⟨hsz, hP, hK, hD0⟩, hXP⟩ := hv
  have hx := B.exec
  have hb := B.bytes
  have hts := atoms_spec (ws := wsX6_unit) B.pre
  have hown : s.vm.findClass RX6 = some m.cls := findClass_of_methodNamed B.named
  have hlocks := B.notSynchronized
  subst hsz
  have hD := hD0.self (sz := s.heap.size)
  clear hD0
  obtain ⟨A, hAe⟩ : ∃ A, va_A (wU k aU xI xL xS xB xV xC Uformulas Udrawn Umodels) s.heap.size = A := ⟨_, rfl⟩
  rw [hAe] at hD hXP
  have hA : ∀ q : Nat, s.heap.size ≤ q → A q := fun q h => by rw [← hAe]; exact Or.inr h
  have hS : va_S A s.heap s.heap [] := va_S.rf
  have hl := lv_entry ([.ref (aU 0), .int v1, .int v2, .int v3]) (n := 4) (Nat.le_of_ble_eq_true rfl)
  rw [show entryFrame m args 4 = entryFrame m ([.ref (aU 0), .int v1, .int v2, .int v3] : List Value).toArray 4 from by rw [hav], lg_entry_eq]
  generalize (lg_sl ([.ref (aU 0), .int v1, .int v2, .int v3]) ++ List.replicate (4 - (lg_sl ([.ref (aU 0), .int v1, .int v2, .int v3])).length) Slot.unset).toArray = ls at hl ⊢
  replace hl : lv_has ls 4 [(0, .ref (aU 0)), (1, .int v1), (2, .int v2), (3, .int v3)] := hl
  show W p l e rmTX6_unit s m args below meth c s.heap [] 0 0 _ (F0 m 0 ls [])
  suffices main : ∀ (H : Heap) (locs : List Loc) (ls : Array Slot), va_P D vwCl (wU k aU xI xL xS xB xV xC Uformulas Udrawn Umodels) H → va_D A (wU k aU xI xL xS xB xV xC Uformulas Udrawn Umodels) → va_S A s.heap H locs → lv_has ls 4 [(0, .ref (aU 0)), (1, .int v1), (2, .int v2), (3, .int v3)] → W p l e rmTX6_unit s m args below meth c H locs 0 0 _ (F0 m 0 ls []) from main _ _ _ hP hD hS hl
  clear hP hD hS hl ls
  intro H locs ls hP hD hS hl
  refine lv_iload_n hx hb dX6_unit_0 rfl (lv_at hl 1 rfl) ?_
  have hPc := hP.sub (ws' := ([] : va_W)) [] rfl
  have hDc := hD.sub (ws' := ([] : va_W)) [] rfl rfl
  have hFc := va_free (wc := ([] : va_W)) hD hS hA [] rfl
  exact xt_v (vx_runS (As := [.int v1]) (rest := []) ⟨hx, hb, hml, hown, hts⟩ (thr_X6_checkInput l hst D k H.size v1 k1) (va_cwS 1 hts gX6_unit_X6_checkInput rfl rfl rfl (by decide +kernel) ⟨Nat.le_of_ble_eq_true rfl, Nat.le_of_ble_eq_true rfl⟩) ⟨px_blind, px_start hPc hK hDc (XP.keep hXP hS.2.1) hFc⟩ rfl rfl hl.1 rfl (lv_room (Nat.le_of_ble_eq_true rfl)) dX6_unit_1 ⟨Nat.le_refl _, Nat.le_refl _⟩) hAe hP hK hD hS hFc (fun H1 hP1 hD1 hk1 => vk hP hD [] rfl hk1 hP1) htab hlocks
set_option maxHeartbeats 4000000 in
set_option maxRecDepth 100000 in
theorem thr_X6_unit_1 (l : Launch) (hst : l.stackTraces = false) (D : va_G) (k : Nat → ClassId) (aU : Nat → Nat) (xI xL xS xB xV xC : Nat) (sz : Nat) (Uformulas : Nat → Option Nat) (Udrawn : Nat → Int32) (Umodels : Int32) (v1 : Int32) (v2 : Int32) (v3 : Int32)  (k2 : fX6_checkInput v1 = some ()) (k3 : v2 < ((-3)) ∨ ¬ v2 ≤ 3) : vx_Met l yX6_unit wsX6_unit rmTX6_unit (va_Pc [.ref (aU 0), .int v1, .int v2, .int v3] (PreX D k (wU k aU xI xL xS xB xV xC Uformulas Udrawn Umodels) sz)) NQ (XQ D k (wU k aU xI xL xS xB xV xC Uformulas Udrawn Umodels) sz exA) 1 6 (va_A (wU k aU xI xL xS xB xV xC Uformulas Udrawn Umodels) sz) := by
  refine vx_ofW (cc := cX6_unit) (maxL := 4) (ret := (some .int)) (by decide) rfl ?_
  intro p e s m args below meth c s₁ B hml htab hv
  obtain ⟨hav, ⟨hsz, hP, hK, hD0⟩, hXP⟩ := hv
  have hx := B.exec
  have hb := B.bytes
  have hts := atoms_spec (ws := wsX6_unit) B.pre
  have hown : s.vm.findClass RX6 = some m.cls := findClass_of_methodNamed B.named
  have hlocks := B.notSynchronized
  subst hsz
  have hD := hD0.self (sz := s.heap.size)
  clear hD0
  obtain ⟨A, hAe⟩ : ∃ A, va_A (wU k aU xI xL xS xB xV xC Uformulas Udrawn Umodels) s.heap.size = A := ⟨_, rfl⟩
  rw [hAe] at hD hXP
  have hA : ∀ q : Nat, s.heap.size ≤ q → A q := fun q h => by rw [← hAe]; exact Or.inr h
  have hS : va_S A s.heap s.heap [] := va_S.rf
  have hl := lv_entry ([.ref (aU 0), .int v1, .int v2, .int v3]) (n := 4) (Nat.le_of_ble_eq_true rfl)
  rw [show entryFrame m args 4 = entryFrame m ([.ref (aU 0), .int v1, .int v2, .int v3] : List Value).toArray 4 from by rw [hav], lg_entry_eq]
  generalize (lg_sl ([.ref (aU 0), .int v1, .int v2, .int v3]) ++ List.replicate (4 - (lg_sl ([.ref (aU 0), .int v1, .int v2, .int v3])).length) Slot.unset).toArray = ls at hl ⊢
  replace hl : lv_has ls 4 [(0, .ref (aU 0)), (1, .int v1), (2, .int v2), (3, .int v3)] := hl
  show W p l e rmTX6_unit s m args below meth c s.heap [] 0 0 _ (F0 m 0 ls [])
  suffices main : ∀ (H : Heap) (locs : List Loc) (ls : Array Slot), va_P D vwCl (wU k aU xI xL xS xB xV xC Uformulas Udrawn Umodels) H → va_D A (wU k aU xI xL xS xB xV xC Uformulas Udrawn Umodels) → va_S A s.heap H locs → lv_has ls 4 [(0, .ref (aU 0)), (1, .int v1), (2, .int v2), (3, .int v3)] → W p l e rmTX6_unit s m args below meth c H locs 0 0 _ (F0 m 0 ls []) from main _ _ _ hP hD hS hl
  clear hP hD hS hl ls
  intro H locs ls hP hD hS hl
  refine lv_iload_n hx hb dX6_unit_0 rfl (lv_at hl 1 rfl) ?_
  have hPc := hP.sub (ws' := ([] : va_W)) [] rfl
  have hDc := hD.sub (ws' := ([] : va_W)) [] rfl rfl
  have hFc := va_free (wc := ([] : va_W)) hD hS hA [] rfl
  refine xc_v (va_runS (As := [.int v1]) (rest := []) ⟨hx, hb, hml, hown, hts⟩ (met_X6_checkInput l D k H.size v1 k2) (va_cwS 1 hts gX6_unit_X6_checkInput rfl rfl rfl (by decide +kernel) ⟨Nat.le_of_ble_eq_true rfl, Nat.le_of_ble_eq_true rfl⟩) ⟨pw_blind, pw_start hPc hK hDc⟩ rfl rfl hl.1 rfl (lv_room (Nat.le_of_ble_eq_true rfl)) dX6_unit_1 ⟨Nat.zero_le _, Nat.zero_le _⟩) hS hFc (fun H1 locs hP1 hD1 hk1 hS => ?_)
  obtain ⟨hP, hD⟩ := vk hP hD [] rfl hk1 hP1
  clear hP1 hD1 hk1 hFc
  generalize H1 = H at hP hS ⊢
  refine lv_iload_n hx hb dX6_unit_4 rfl (lv_at hl 2 rfl) ?_
  refine lv_bipush (v := -3) hx hb dX6_unit_5 (by decide) ?_
  refine lv_iconst (v := 3) hx hb dX6_unit_7 (by decide) ?_
  have hPc := hP.sub (ws' := ([] : va_W)) [] rfl
  have hDc := hD.sub (ws' := ([] : va_W)) [] rfl rfl
  have hFc := va_free (wc := ([] : va_W)) hD hS hA [] rfl
  exact xt_v (vx_runS (As := [.int v2, .int ((-3)), .int 3]) (rest := []) ⟨hx, hb, hml, hown, hts⟩ (thr_X6_checkRange l hst D k H.size v2 ((-3)) 3 k3) (va_cwS 3 hts gX6_unit_X6_checkRange rfl rfl rfl (by decide +kernel) ⟨Nat.le_of_ble_eq_true rfl, Nat.le_of_ble_eq_true rfl⟩) ⟨px_blind, px_start hPc hK hDc (XP.keep hXP hS.2.1) hFc⟩ rfl rfl hl.1 rfl (lv_room (Nat.le_of_ble_eq_true rfl)) dX6_unit_8 ⟨Nat.le_refl _, Nat.le_refl _⟩) hAe hP hK hD hS hFc (fun H1 hP1 hD1 hk1 => vk hP hD [] rfl hk1 hP1) htab hlocks
set_option maxHeartbeats 4000000 in
set_option maxRecDepth 100000 in
theorem thr_X6_unit_2 (l : Launch) (hst : l.stackTraces = false) (D : va_G) (k : Nat → ClassId) (aU : Nat → Nat) (xI xL xS xB xV xC : Nat) (sz : Nat) (Uformulas : Nat → Option Nat) (Udrawn : Nat → Int32) (Umodels : Int32) (v1 : Int32) (v2 : Int32) (v3 : Int32)  (k2 : fX6_checkInput v1 = some ()) (k4 : fX6_checkRange v2 ((-3)) 3 = some ()) (k5 : v3 < ((-3)) ∨ ¬ v3 ≤ 3) : vx_Met l yX6_unit wsX6_unit rmTX6_unit (va_Pc [.ref (aU 0), .int v1, .int v2, .int v3] (PreX D k (wU k aU xI xL xS xB xV xC Uformulas Udrawn Umodels) sz)) NQ (XQ D k (wU k aU xI xL xS xB xV xC Uformulas Udrawn Umodels) sz exA) 1 6 (va_A (wU k aU xI xL xS xB xV xC Uformulas Udrawn Umodels) sz) := by
  refine vx_ofW (cc := cX6_unit) (maxL := 4) (ret := (some .int)) (by decide) rfl ?_
  intro p e s m args below meth c s₁ B hml htab hv
  obtain ⟨hav, ⟨hsz, hP, hK, hD0⟩, hXP⟩ := hv
  have hx := B.exec
  have hb := B.bytes
  have hts := atoms_spec (ws := wsX6_unit) B.pre
  have hown : s.vm.findClass RX6 = some m.cls := findClass_of_methodNamed B.named
  have hlocks := B.notSynchronized
  subst hsz
  have hD := hD0.self (sz := s.heap.size)
  clear hD0
  obtain ⟨A, hAe⟩ : ∃ A, va_A (wU k aU xI xL xS xB xV xC Uformulas Udrawn Umodels) s.heap.size = A := ⟨_, rfl⟩
  rw [hAe] at hD hXP
  have hA : ∀ q : Nat, s.heap.size ≤ q → A q := fun q h => by rw [← hAe]; exact Or.inr h
  have hS : va_S A s.heap s.heap [] := va_S.rf
  have hl := lv_entry ([.ref (aU 0), .int v1, .int v2, .int v3]) (n := 4) (Nat.le_of_ble_eq_true rfl)
  rw [show entryFrame m args 4 = entryFrame m ([.ref (aU 0), .int v1, .int v2, .int v3] : List Value).toArray 4 from by rw [hav], lg_entry_eq]
  generalize (lg_sl ([.ref (aU 0), .int v1, .int v2, .int v3]) ++ List.replicate (4 - (lg_sl ([.ref (aU 0), .int v1, .int v2, .int v3])).length) Slot.unset).toArray = ls at hl ⊢
  replace hl : lv_has ls 4 [(0, .ref (aU 0)), (1, .int v1), (2, .int v2), (3, .int v3)] := hl
  show W p l e rmTX6_unit s m args below meth c s.heap [] 0 0 _ (F0 m 0 ls [])
  suffices main : ∀ (H : Heap) (locs : List Loc) (ls : Array Slot), va_P D vwCl (wU k aU xI xL xS xB xV xC Uformulas Udrawn Umodels) H → va_D A (wU k aU xI xL xS xB xV xC Uformulas Udrawn Umodels) → va_S A s.heap H locs → lv_has ls 4 [(0, .ref (aU 0)), (1, .int v1), (2, .int v2), (3, .int v3)] → W p l e rmTX6_unit s m args below meth c H locs 0 0 _ (F0 m 0 ls []) from main _ _ _ hP hD hS hl
  clear hP hD hS hl ls
  intro H locs ls hP hD hS hl
  refine lv_iload_n hx hb dX6_unit_0 rfl (lv_at hl 1 rfl) ?_
  have hPc := hP.sub (ws' := ([] : va_W)) [] rfl
  have hDc := hD.sub (ws' := ([] : va_W)) [] rfl rfl
  have hFc := va_free (wc := ([] : va_W)) hD hS hA [] rfl
  refine xc_v (va_runS (As := [.int v1]) (rest := []) ⟨hx, hb, hml, hown, hts⟩ (met_X6_checkInput l D k H.size v1 k2) (va_cwS 1 hts gX6_unit_X6_checkInput rfl rfl rfl (by decide +kernel) ⟨Nat.le_of_ble_eq_true rfl, Nat.le_of_ble_eq_true rfl⟩) ⟨pw_blind, pw_start hPc hK hDc⟩ rfl rfl hl.1 rfl (lv_room (Nat.le_of_ble_eq_true rfl)) dX6_unit_1 ⟨Nat.zero_le _, Nat.zero_le _⟩) hS hFc (fun H1 locs hP1 hD1 hk1 hS => ?_)
  obtain ⟨hP, hD⟩ := vk hP hD [] rfl hk1 hP1
  clear hP1 hD1 hk1 hFc
  generalize H1 = H at hP hS ⊢
  refine lv_iload_n hx hb dX6_unit_4 rfl (lv_at hl 2 rfl) ?_
  refine lv_bipush (v := -3) hx hb dX6_unit_5 (by decide) ?_
  refine lv_iconst (v := 3) hx hb dX6_unit_7 (by decide) ?_
  have hPc := hP.sub (ws' := ([] : va_W)) [] rfl
  have hDc := hD.sub (ws' := ([] : va_W)) [] rfl rfl
  have hFc := va_free (wc := ([] : va_W)) hD hS hA [] rfl
  refine xc_v (va_runS (As := [.int v2, .int ((-3)), .int 3]) (rest := []) ⟨hx, hb, hml, hown, hts⟩ (met_X6_checkRange l D k H.size v2 ((-3)) 3 k4) (va_cwS 3 hts gX6_unit_X6_checkRange rfl rfl rfl (by decide +kernel) ⟨Nat.le_of_ble_eq_true rfl, Nat.le_of_ble_eq_true rfl⟩) ⟨pw_blind, pw_start hPc hK hDc⟩ rfl rfl hl.1 rfl (lv_room (Nat.le_of_ble_eq_true rfl)) dX6_unit_8 ⟨Nat.zero_le _, Nat.zero_le _⟩) hS hFc (fun H1 locs hP1 hD1 hk1 hS => ?_)
  obtain ⟨hP, hD⟩ := vk hP hD [] rfl hk1 hP1
  clear hP1 hD1 hk1 hFc
  generalize H1 = H at hP hS ⊢
  refine lv_iload_n hx hb dX6_unit_11 rfl (lv_at hl 3 rfl) ?_
  refine lv_bipush (v := -3) hx hb dX6_unit_12 (by decide) ?_
  refine lv_iconst (v := 3) hx hb dX6_unit_14 (by decide) ?_
  have hPc := hP.sub (ws' := ([] : va_W)) [] rfl
  have hDc := hD.sub (ws' := ([] : va_W)) [] rfl rfl
  have hFc := va_free (wc := ([] : va_W)) hD hS hA [] rfl
  exact xt_v (vx_runS (As := [.int v3, .int ((-3)), .int 3]) (rest := []) ⟨hx, hb, hml, hown, hts⟩ (thr_X6_checkRange l hst D k H.size v3 ((-3)) 3 k5) (va_cwS 3 hts gX6_unit_X6_checkRange rfl rfl rfl (by decide +kernel) ⟨Nat.le_of_ble_eq_true rfl, Nat.le_of_ble_eq_true rfl⟩) ⟨px_blind, px_start hPc hK hDc (XP.keep hXP hS.2.1) hFc⟩ rfl rfl hl.1 rfl (lv_room (Nat.le_of_ble_eq_true rfl)) dX6_unit_15 ⟨Nat.le_refl _, Nat.le_refl _⟩) hAe hP hK hD hS hFc (fun H1 hP1 hD1 hk1 => vk hP hD [] rfl hk1 hP1) htab hlocks
abbrev rmTX6_together : Room := { frames := 7, cells := 1, slots := 6, locals := 140 }
set_option maxHeartbeats 4000000 in
set_option maxRecDepth 100000 in
theorem thr_X6_together_0 (l : Launch) (hst : l.stackTraces = false) (D : va_G) (k : Nat → ClassId) (aU : Nat → Nat) (xI xL xS xB xV xC : Nat) (sz : Nat) (Uformulas : Nat → Option Nat) (Udrawn : Nat → Int32) (Umodels : Int32) (v1 : Int32) (v2 : Int32) (v3 : Int32)  (k1 : v1 < 0 ∨ ¬ v1 < 6) : vx_Met l yX6_together wsX6_together rmTX6_together (va_Pc [.ref (aU 0), .int v1, .int v2, .int v3] (PreX D k (wU k aU xI xL xS xB xV xC Uformulas Udrawn Umodels) sz)) NQ (XQ D k (wU k aU xI xL xS xB xV xC Uformulas Udrawn Umodels) sz exI) 1 6 (va_A (wU k aU xI xL xS xB xV xC Uformulas Udrawn Umodels) sz) := by
  refine vx_ofW (cc := cX6_together) (maxL := 4) (ret := (some .int)) (by decide) rfl ?_
  intro p e s m args below meth c s₁ B hml htab hv
  obtain ⟨hav, ⟨hsz, hP, hK, hD0⟩, hXP⟩ := hv
  have hx := B.exec
  have hb := B.bytes
  have hts := atoms_spec (ws := wsX6_together) B.pre
  have hown : s.vm.findClass RX6 = some m.cls := findClass_of_methodNamed B.named
  have hlocks := B.notSynchronized
  subst hsz
  have hD := hD0.self (sz := s.heap.size)
  clear hD0
  obtain ⟨A, hAe⟩ : ∃ A, va_A (wU k aU xI xL xS xB xV xC Uformulas Udrawn Umodels) s.heap.size = A := ⟨_, rfl⟩
  rw [hAe] at hD hXP
  have hA : ∀ q : Nat, s.heap.size ≤ q → A q := fun q h => by rw [← hAe]; exact Or.inr h
  have hS : va_S A s.heap s.heap [] := va_S.rf
  have hl := lv_entry ([.ref (aU 0), .int v1, .int v2, .int v3]) (n := 4) (Nat.le_of_ble_eq_true rfl)
  rw [show entryFrame m args 4 = entryFrame m ([.ref (aU 0), .int v1, .int v2, .int v3] : List Value).toArray 4 from by rw [hav], lg_entry_eq]
  generalize (lg_sl ([.ref (aU 0), .int v1, .int v2, .int v3]) ++ List.replicate (4 - (lg_sl ([.ref (aU 0), .int v1, .int v2, .int v3])).length) Slot.unset).toArray = ls at hl ⊢
  replace hl : lv_has ls 4 [(0, .ref (aU 0)), (1, .int v1), (2, .int v2), (3, .int v3)] := hl
  show W p l e rmTX6_together s m args below meth c s.heap [] 0 0 _ (F0 m 0 ls [])
  suffices main : ∀ (H : Heap) (locs : List Loc) (ls : Array Slot), va_P D vwCl (wU k aU xI xL xS xB xV xC Uformulas Udrawn Umodels) H → va_D A (wU k aU xI xL xS xB xV xC Uformulas Udrawn Umodels) → va_S A s.heap H locs → lv_has ls 4 [(0, .ref (aU 0)), (1, .int v1), (2, .int v2), (3, .int v3)] → W p l e rmTX6_together s m args below meth c H locs 0 0 _ (F0 m 0 ls []) from main _ _ _ hP hD hS hl
  clear hP hD hS hl ls
  intro H locs ls hP hD hS hl
  refine lv_iload_n hx hb dX6_together_0 rfl (lv_at hl 1 rfl) ?_
  have hPc := hP.sub (ws' := ([] : va_W)) [] rfl
  have hDc := hD.sub (ws' := ([] : va_W)) [] rfl rfl
  have hFc := va_free (wc := ([] : va_W)) hD hS hA [] rfl
  exact xt_v (vx_runS (As := [.int v1]) (rest := []) ⟨hx, hb, hml, hown, hts⟩ (thr_X6_checkInput l hst D k H.size v1 k1) (va_cwS 1 hts gX6_together_X6_checkInput rfl rfl rfl (by decide +kernel) ⟨Nat.le_of_ble_eq_true rfl, Nat.le_of_ble_eq_true rfl⟩) ⟨px_blind, px_start hPc hK hDc (XP.keep hXP hS.2.1) hFc⟩ rfl rfl hl.1 rfl (lv_room (Nat.le_of_ble_eq_true rfl)) dX6_together_1 ⟨Nat.le_refl _, Nat.le_refl _⟩) hAe hP hK hD hS hFc (fun H1 hP1 hD1 hk1 => vk hP hD [] rfl hk1 hP1) htab hlocks
set_option maxHeartbeats 4000000 in
set_option maxRecDepth 100000 in
theorem thr_X6_together_1 (l : Launch) (hst : l.stackTraces = false) (D : va_G) (k : Nat → ClassId) (aU : Nat → Nat) (xI xL xS xB xV xC : Nat) (sz : Nat) (Uformulas : Nat → Option Nat) (Udrawn : Nat → Int32) (Umodels : Int32) (v1 : Int32) (v2 : Int32) (v3 : Int32)  (k2 : fX6_checkInput v1 = some ()) (k3 : v2 < 0 ∨ ¬ v2 < 6) : vx_Met l yX6_together wsX6_together rmTX6_together (va_Pc [.ref (aU 0), .int v1, .int v2, .int v3] (PreX D k (wU k aU xI xL xS xB xV xC Uformulas Udrawn Umodels) sz)) NQ (XQ D k (wU k aU xI xL xS xB xV xC Uformulas Udrawn Umodels) sz exI) 1 6 (va_A (wU k aU xI xL xS xB xV xC Uformulas Udrawn Umodels) sz) := by
  refine vx_ofW (cc := cX6_together) (maxL := 4) (ret := (some .int)) (by decide) rfl ?_
  intro p e s m args below meth c s₁ B hml htab hv
  obtain ⟨hav, ⟨hsz, hP, hK, hD0⟩, hXP⟩ := hv
  have hx := B.exec
  have hb := B.bytes
  have hts := atoms_spec (ws := wsX6_together) B.pre
  have hown : s.vm.findClass RX6 = some m.cls := findClass_of_methodNamed B.named
  have hlocks := B.notSynchronized
  subst hsz
  have hD := hD0.self (sz := s.heap.size)
  clear hD0
  obtain ⟨A, hAe⟩ : ∃ A, va_A (wU k aU xI xL xS xB xV xC Uformulas Udrawn Umodels) s.heap.size = A := ⟨_, rfl⟩
  rw [hAe] at hD hXP
  have hA : ∀ q : Nat, s.heap.size ≤ q → A q := fun q h => by rw [← hAe]; exact Or.inr h
  have hS : va_S A s.heap s.heap [] := va_S.rf
  have hl := lv_entry ([.ref (aU 0), .int v1, .int v2, .int v3]) (n := 4) (Nat.le_of_ble_eq_true rfl)
  rw [show entryFrame m args 4 = entryFrame m ([.ref (aU 0), .int v1, .int v2, .int v3] : List Value).toArray 4 from by rw [hav], lg_entry_eq]
  generalize (lg_sl ([.ref (aU 0), .int v1, .int v2, .int v3]) ++ List.replicate (4 - (lg_sl ([.ref (aU 0), .int v1, .int v2, .int v3])).length) Slot.unset).toArray = ls at hl ⊢
  replace hl : lv_has ls 4 [(0, .ref (aU 0)), (1, .int v1), (2, .int v2), (3, .int v3)] := hl
  show W p l e rmTX6_together s m args below meth c s.heap [] 0 0 _ (F0 m 0 ls [])
  suffices main : ∀ (H : Heap) (locs : List Loc) (ls : Array Slot), va_P D vwCl (wU k aU xI xL xS xB xV xC Uformulas Udrawn Umodels) H → va_D A (wU k aU xI xL xS xB xV xC Uformulas Udrawn Umodels) → va_S A s.heap H locs → lv_has ls 4 [(0, .ref (aU 0)), (1, .int v1), (2, .int v2), (3, .int v3)] → W p l e rmTX6_together s m args below meth c H locs 0 0 _ (F0 m 0 ls []) from main _ _ _ hP hD hS hl
  clear hP hD hS hl ls
  intro H locs ls hP hD hS hl
  refine lv_iload_n hx hb dX6_together_0 rfl (lv_at hl 1 rfl) ?_
  have hPc := hP.sub (ws' := ([] : va_W)) [] rfl
  have hDc := hD.sub (ws' := ([] : va_W)) [] rfl rfl
  have hFc := va_free (wc := ([] : va_W)) hD hS hA [] rfl
  refine xc_v (va_runS (As := [.int v1]) (rest := []) ⟨hx, hb, hml, hown, hts⟩ (met_X6_checkInput l D k H.size v1 k2) (va_cwS 1 hts gX6_together_X6_checkInput rfl rfl rfl (by decide +kernel) ⟨Nat.le_of_ble_eq_true rfl, Nat.le_of_ble_eq_true rfl⟩) ⟨pw_blind, pw_start hPc hK hDc⟩ rfl rfl hl.1 rfl (lv_room (Nat.le_of_ble_eq_true rfl)) dX6_together_1 ⟨Nat.zero_le _, Nat.zero_le _⟩) hS hFc (fun H1 locs hP1 hD1 hk1 hS => ?_)
  obtain ⟨hP, hD⟩ := vk hP hD [] rfl hk1 hP1
  clear hP1 hD1 hk1 hFc
  generalize H1 = H at hP hS ⊢
  refine lv_iload_n hx hb dX6_together_4 rfl (lv_at hl 2 rfl) ?_
  have hPc := hP.sub (ws' := ([] : va_W)) [] rfl
  have hDc := hD.sub (ws' := ([] : va_W)) [] rfl rfl
  have hFc := va_free (wc := ([] : va_W)) hD hS hA [] rfl
  exact xt_v (vx_runS (As := [.int v2]) (rest := []) ⟨hx, hb, hml, hown, hts⟩ (thr_X6_checkInput l hst D k H.size v2 k3) (va_cwS 1 hts gX6_together_X6_checkInput rfl rfl rfl (by decide +kernel) ⟨Nat.le_of_ble_eq_true rfl, Nat.le_of_ble_eq_true rfl⟩) ⟨px_blind, px_start hPc hK hDc (XP.keep hXP hS.2.1) hFc⟩ rfl rfl hl.1 rfl (lv_room (Nat.le_of_ble_eq_true rfl)) dX6_together_5 ⟨Nat.le_refl _, Nat.le_refl _⟩) hAe hP hK hD hS hFc (fun H1 hP1 hD1 hk1 => vk hP hD [] rfl hk1 hP1) htab hlocks
set_option maxHeartbeats 4000000 in
set_option maxRecDepth 100000 in
theorem thr_X6_together_2 (l : Launch) (hst : l.stackTraces = false) (D : va_G) (k : Nat → ClassId) (aU : Nat → Nat) (xI xL xS xB xV xC : Nat) (sz : Nat) (Uformulas : Nat → Option Nat) (Udrawn : Nat → Int32) (Umodels : Int32) (v1 : Int32) (v2 : Int32) (v3 : Int32)  (k2 : fX6_checkInput v1 = some ()) (k4 : fX6_checkInput v2 = some ()) (k5 : v3 < ((-9999)) ∨ ¬ v3 ≤ 9999) : vx_Met l yX6_together wsX6_together rmTX6_together (va_Pc [.ref (aU 0), .int v1, .int v2, .int v3] (PreX D k (wU k aU xI xL xS xB xV xC Uformulas Udrawn Umodels) sz)) NQ (XQ D k (wU k aU xI xL xS xB xV xC Uformulas Udrawn Umodels) sz exA) 1 6 (va_A (wU k aU xI xL xS xB xV xC Uformulas Udrawn Umodels) sz) := by
  refine vx_ofW (cc := cX6_together) (maxL := 4) (ret := (some .int)) (by decide) rfl ?_
  intro p e s m args below meth c s₁ B hml htab hv
  obtain ⟨hav, ⟨hsz, hP, hK, hD0⟩, hXP⟩ := hv
  have hx := B.exec
  have hb := B.bytes
  have hts := atoms_spec (ws := wsX6_together) B.pre
  have hown : s.vm.findClass RX6 = some m.cls := findClass_of_methodNamed B.named
  have hlocks := B.notSynchronized
  subst hsz
  have hD := hD0.self (sz := s.heap.size)
  clear hD0
  obtain ⟨A, hAe⟩ : ∃ A, va_A (wU k aU xI xL xS xB xV xC Uformulas Udrawn Umodels) s.heap.size = A := ⟨_, rfl⟩
  rw [hAe] at hD hXP
  have hA : ∀ q : Nat, s.heap.size ≤ q → A q := fun q h => by rw [← hAe]; exact Or.inr h
  have hS : va_S A s.heap s.heap [] := va_S.rf
  have hl := lv_entry ([.ref (aU 0), .int v1, .int v2, .int v3]) (n := 4) (Nat.le_of_ble_eq_true rfl)
  rw [show entryFrame m args 4 = entryFrame m ([.ref (aU 0), .int v1, .int v2, .int v3] : List Value).toArray 4 from by rw [hav], lg_entry_eq]
  generalize (lg_sl ([.ref (aU 0), .int v1, .int v2, .int v3]) ++ List.replicate (4 - (lg_sl ([.ref (aU 0), .int v1, .int v2, .int v3])).length) Slot.unset).toArray = ls at hl ⊢
  replace hl : lv_has ls 4 [(0, .ref (aU 0)), (1, .int v1), (2, .int v2), (3, .int v3)] := hl
  show W p l e rmTX6_together s m args below meth c s.heap [] 0 0 _ (F0 m 0 ls [])
  suffices main : ∀ (H : Heap) (locs : List Loc) (ls : Array Slot), va_P D vwCl (wU k aU xI xL xS xB xV xC Uformulas Udrawn Umodels) H → va_D A (wU k aU xI xL xS xB xV xC Uformulas Udrawn Umodels) → va_S A s.heap H locs → lv_has ls 4 [(0, .ref (aU 0)), (1, .int v1), (2, .int v2), (3, .int v3)] → W p l e rmTX6_together s m args below meth c H locs 0 0 _ (F0 m 0 ls []) from main _ _ _ hP hD hS hl
  clear hP hD hS hl ls
  intro H locs ls hP hD hS hl
  refine lv_iload_n hx hb dX6_together_0 rfl (lv_at hl 1 rfl) ?_
  have hPc := hP.sub (ws' := ([] : va_W)) [] rfl
  have hDc := hD.sub (ws' := ([] : va_W)) [] rfl rfl
  have hFc := va_free (wc := ([] : va_W)) hD hS hA [] rfl
  refine xc_v (va_runS (As := [.int v1]) (rest := []) ⟨hx, hb, hml, hown, hts⟩ (met_X6_checkInput l D k H.size v1 k2) (va_cwS 1 hts gX6_together_X6_checkInput rfl rfl rfl (by decide +kernel) ⟨Nat.le_of_ble_eq_true rfl, Nat.le_of_ble_eq_true rfl⟩) ⟨pw_blind, pw_start hPc hK hDc⟩ rfl rfl hl.1 rfl (lv_room (Nat.le_of_ble_eq_true rfl)) dX6_together_1 ⟨Nat.zero_le _, Nat.zero_le _⟩) hS hFc (fun H1 locs hP1 hD1 hk1 hS => ?_)
  obtain ⟨hP, hD⟩ := vk hP hD [] rfl hk1 hP1
  clear hP1 hD1 hk1 hFc
  generalize H1 = H at hP hS ⊢
  refine lv_iload_n hx hb dX6_together_4 rfl (lv_at hl 2 rfl) ?_
  have hPc := hP.sub (ws' := ([] : va_W)) [] rfl
  have hDc := hD.sub (ws' := ([] : va_W)) [] rfl rfl
  have hFc := va_free (wc := ([] : va_W)) hD hS hA [] rfl
  refine xc_v (va_runS (As := [.int v2]) (rest := []) ⟨hx, hb, hml, hown, hts⟩ (met_X6_checkInput l D k H.size v2 k4) (va_cwS 1 hts gX6_together_X6_checkInput rfl rfl rfl (by decide +kernel) ⟨Nat.le_of_ble_eq_true rfl, Nat.le_of_ble_eq_true rfl⟩) ⟨pw_blind, pw_start hPc hK hDc⟩ rfl rfl hl.1 rfl (lv_room (Nat.le_of_ble_eq_true rfl)) dX6_together_5 ⟨Nat.zero_le _, Nat.zero_le _⟩) hS hFc (fun H1 locs hP1 hD1 hk1 hS => ?_)
  obtain ⟨hP, hD⟩ := vk hP hD [] rfl hk1 hP1
  clear hP1 hD1 hk1 hFc
  generalize H1 = H at hP hS ⊢
  refine lv_iload_n hx hb dX6_together_8 rfl (lv_at hl 3 rfl) ?_
  refine lv_sipush (v := -9999) hx hb dX6_together_9 (by decide) ?_
  refine lv_sipush (v := 9999) hx hb dX6_together_12 (by decide) ?_
  have hPc := hP.sub (ws' := ([] : va_W)) [] rfl
  have hDc := hD.sub (ws' := ([] : va_W)) [] rfl rfl
  have hFc := va_free (wc := ([] : va_W)) hD hS hA [] rfl
  exact xt_v (vx_runS (As := [.int v3, .int ((-9999)), .int 9999]) (rest := []) ⟨hx, hb, hml, hown, hts⟩ (thr_X6_checkRange l hst D k H.size v3 ((-9999)) 9999 k5) (va_cwS 3 hts gX6_together_X6_checkRange rfl rfl rfl (by decide +kernel) ⟨Nat.le_of_ble_eq_true rfl, Nat.le_of_ble_eq_true rfl⟩) ⟨px_blind, px_start hPc hK hDc (XP.keep hXP hS.2.1) hFc⟩ rfl rfl hl.1 rfl (lv_room (Nat.le_of_ble_eq_true rfl)) dX6_together_15 ⟨Nat.le_refl _, Nat.le_refl _⟩) hAe hP hK hD hS hFc (fun H1 hP1 hD1 hk1 => vk hP hD [] rfl hk1 hP1) htab hlocks
set_option maxHeartbeats 4000000 in
set_option maxRecDepth 100000 in
theorem thr_X6_together_3 (l : Launch) (hst : l.stackTraces = false) (D : va_G) (k : Nat → ClassId) (aU : Nat → Nat) (xI xL xS xB xV xC : Nat) (sz : Nat) (Uformulas : Nat → Option Nat) (Udrawn : Nat → Int32) (Umodels : Int32) (v1 : Int32) (v2 : Int32) (v3 : Int32)  (k2 : fX6_checkInput v1 = some ()) (k4 : fX6_checkInput v2 = some ()) (k6 : fX6_checkRange v3 ((-9999)) 9999 = some ()) (c7 : v1 = v2) : vx_Met l yX6_together wsX6_together rmTX6_together (va_Pc [.ref (aU 0), .int v1, .int v2, .int v3] (PreX D k (wU k aU xI xL xS xB xV xC Uformulas Udrawn Umodels) sz)) NQ (XQ D k (wU k aU xI xL xS xB xV xC Uformulas Udrawn Umodels) sz exA) 1 6 (va_A (wU k aU xI xL xS xB xV xC Uformulas Udrawn Umodels) sz) := by
  refine vx_ofW (cc := cX6_together) (maxL := 4) (ret := (some .int)) (by decide) rfl ?_
  intro p e s m args below meth c s₁ B hml htab hv
  obtain ⟨hav, ⟨hsz, hP, hK, hD0⟩, hXP⟩ := hv
  have hx := B.exec
  have hb := B.bytes
  have hts := atoms_spec (ws := wsX6_together) B.pre
  have hown : s.vm.findClass RX6 = some m.cls := findClass_of_methodNamed B.named
  have hlocks := B.notSynchronized
  subst hsz
  have hD := hD0.self (sz := s.heap.size)
  clear hD0
  obtain ⟨A, hAe⟩ : ∃ A, va_A (wU k aU xI xL xS xB xV xC Uformulas Udrawn Umodels) s.heap.size = A := ⟨_, rfl⟩
  rw [hAe] at hD hXP
  have hA : ∀ q : Nat, s.heap.size ≤ q → A q := fun q h => by rw [← hAe]; exact Or.inr h
  have hS : va_S A s.heap s.heap [] := va_S.rf
  have hl := lv_entry ([.ref (aU 0), .int v1, .int v2, .int v3]) (n := 4) (Nat.le_of_ble_eq_true rfl)
  rw [show entryFrame m args 4 = entryFrame m ([.ref (aU 0), .int v1, .int v2, .int v3] : List Value).toArray 4 from by rw [hav], lg_entry_eq]
  generalize (lg_sl ([.ref (aU 0), .int v1, .int v2, .int v3]) ++ List.replicate (4 - (lg_sl ([.ref (aU 0), .int v1, .int v2, .int v3])).length) Slot.unset).toArray = ls at hl ⊢
  replace hl : lv_has ls 4 [(0, .ref (aU 0)), (1, .int v1), (2, .int v2), (3, .int v3)] := hl
  show W p l e rmTX6_together s m args below meth c s.heap [] 0 0 _ (F0 m 0 ls [])
  suffices main : ∀ (H : Heap) (locs : List Loc) (ls : Array Slot), va_P D vwCl (wU k aU xI xL xS xB xV xC Uformulas Udrawn Umodels) H → va_D A (wU k aU xI xL xS xB xV xC Uformulas Udrawn Umodels) → va_S A s.heap H locs → lv_has ls 4 [(0, .ref (aU 0)), (1, .int v1), (2, .int v2), (3, .int v3)] → W p l e rmTX6_together s m args below meth c H locs 0 0 _ (F0 m 0 ls []) from main _ _ _ hP hD hS hl
  clear hP hD hS hl ls
  intro H locs ls hP hD hS hl
  refine lv_iload_n hx hb dX6_together_0 rfl (lv_at hl 1 rfl) ?_
  have hPc := hP.sub (ws' := ([] : va_W)) [] rfl
  have hDc := hD.sub (ws' := ([] : va_W)) [] rfl rfl
  have hFc := va_free (wc := ([] : va_W)) hD hS hA [] rfl
  refine xc_v (va_runS (As := [.int v1]) (rest := []) ⟨hx, hb, hml, hown, hts⟩ (met_X6_checkInput l D k H.size v1 k2) (va_cwS 1 hts gX6_together_X6_checkInput rfl rfl rfl (by decide +kernel) ⟨Nat.le_of_ble_eq_true rfl, Nat.le_of_ble_eq_true rfl⟩) ⟨pw_blind, pw_start hPc hK hDc⟩ rfl rfl hl.1 rfl (lv_room (Nat.le_of_ble_eq_true rfl)) dX6_together_1 ⟨Nat.zero_le _, Nat.zero_le _⟩) hS hFc (fun H1 locs hP1 hD1 hk1 hS => ?_)
  obtain ⟨hP, hD⟩ := vk hP hD [] rfl hk1 hP1
  clear hP1 hD1 hk1 hFc
  generalize H1 = H at hP hS ⊢
  refine lv_iload_n hx hb dX6_together_4 rfl (lv_at hl 2 rfl) ?_
  have hPc := hP.sub (ws' := ([] : va_W)) [] rfl
  have hDc := hD.sub (ws' := ([] : va_W)) [] rfl rfl
  have hFc := va_free (wc := ([] : va_W)) hD hS hA [] rfl
  refine xc_v (va_runS (As := [.int v2]) (rest := []) ⟨hx, hb, hml, hown, hts⟩ (met_X6_checkInput l D k H.size v2 k4) (va_cwS 1 hts gX6_together_X6_checkInput rfl rfl rfl (by decide +kernel) ⟨Nat.le_of_ble_eq_true rfl, Nat.le_of_ble_eq_true rfl⟩) ⟨pw_blind, pw_start hPc hK hDc⟩ rfl rfl hl.1 rfl (lv_room (Nat.le_of_ble_eq_true rfl)) dX6_together_5 ⟨Nat.zero_le _, Nat.zero_le _⟩) hS hFc (fun H1 locs hP1 hD1 hk1 hS => ?_)
  obtain ⟨hP, hD⟩ := vk hP hD [] rfl hk1 hP1
  clear hP1 hD1 hk1 hFc
  generalize H1 = H at hP hS ⊢
  refine lv_iload_n hx hb dX6_together_8 rfl (lv_at hl 3 rfl) ?_
  refine lv_sipush (v := -9999) hx hb dX6_together_9 (by decide) ?_
  refine lv_sipush (v := 9999) hx hb dX6_together_12 (by decide) ?_
  have hPc := hP.sub (ws' := ([] : va_W)) [] rfl
  have hDc := hD.sub (ws' := ([] : va_W)) [] rfl rfl
  have hFc := va_free (wc := ([] : va_W)) hD hS hA [] rfl
  refine xc_v (va_runS (As := [.int v3, .int ((-9999)), .int 9999]) (rest := []) ⟨hx, hb, hml, hown, hts⟩ (met_X6_checkRange l D k H.size v3 ((-9999)) 9999 k6) (va_cwS 3 hts gX6_together_X6_checkRange rfl rfl rfl (by decide +kernel) ⟨Nat.le_of_ble_eq_true rfl, Nat.le_of_ble_eq_true rfl⟩) ⟨pw_blind, pw_start hPc hK hDc⟩ rfl rfl hl.1 rfl (lv_room (Nat.le_of_ble_eq_true rfl)) dX6_together_15 ⟨Nat.zero_le _, Nat.zero_le _⟩) hS hFc (fun H1 locs hP1 hD1 hk1 hS => ?_)
  obtain ⟨hP, hD⟩ := vk hP hD [] rfl hk1 hP1
  clear hP1 hD1 hk1 hFc
  generalize H1 = H at hP hS ⊢
  refine lv_iload_n hx hb dX6_together_18 rfl (lv_at hl 1 rfl) ?_
  refine lv_iload_n hx hb dX6_together_19 rfl (lv_at hl 2 rfl) ?_
  refine lv_icmp_ne (tgt := 33) hx hb dX6_together_20 (by decide) (fun q => absurd c7 q) (fun _ => ?_)
  obtain ⟨sa, hstr⟩ := hXP.2.2.1 (101, "a covariance is of two inputs") (by decide +kernel)
  have hg : ∀ w ∈ (vx_atS RX6 103 exA ["java/lang/RuntimeException", "java/lang/Exception"]).filter goodWord, w ∈ wsX6_together := by decide +kernel
  have hat : ∀ w ∈ vx_atS RX6 103 exA ["java/lang/RuntimeException", "java/lang/Exception"], w.before args s = true := vx_hat (B := [.castable exA exA, .declares (Bundle.initS "java/lang/RuntimeException"), .declares (Bundle.initS "java/lang/Exception"), .declares (Bundle.initS "java/lang/Throwable")]) (fun w hw => hts w (hg w hw)) (by decide +kernel) (vx_c (va_Nw.use rfl (hXP.2.2.2.1 exA (by decide +kernel))) (vx_c (va_Nw.use rfl (hXP.2.2.2.2 _ (by decide +kernel))) (vx_c (va_Nw.use rfl (hXP.2.2.2.2 _ (by decide +kernel))) (vx_c (va_Nw.use rfl (hXP.2.2.2.2 _ (by decide +kernel))) vx_n))))
  exact vx_throwS (own := RX6) (cls := exA) (text := "a covariance is of two inputs") (names := ["java/lang/RuntimeException", "java/lang/Exception"]) (ik := 99) (is := 101) (ic := 103) (sa := sa) (A := A) hx hb hst hown (by decide +kernel) (by decide +kernel) (hts (.classLink RX6 99 exA) (by decide +kernel)) (hts (.initialized exA) (by decide +kernel)) hstr hat (by decide +kernel) hXP.1 hXP.2.1 hS (hl.1.trans hml.symm) dX6_together_23 dX6_together_26 dX6_together_27 dX6_together_29 dX6_together_32 (fun x hx => (htab x hx).elim) (Nat.le_of_ble_eq_true rfl) (Nat.le_of_ble_eq_true rfl) (Nat.le_refl _) (Nat.le_refl _) hlocks (xq_of hAe hP hK hD hS) (fun z hz => by rw [hAe]; exact hS.2.2 z hz) (Nat.le_refl _) (Nat.le_refl _)
abbrev rmTX6_input : Room := { frames := 7, cells := 1, slots := 6, locals := 140 }
set_option maxHeartbeats 4000000 in
set_option maxRecDepth 100000 in
theorem thr_X6_input_0 (l : Launch) (hst : l.stackTraces = false) (D : va_G) (k : Nat → ClassId) (aU : Nat → Nat) (xI xL xS xB xV xC : Nat) (sz : Nat) (Uformulas : Nat → Option Nat) (Udrawn : Nat → Int32) (Umodels : Int32) (v1 : Int32) (v2 : Int32)  (k1 : v1 < 0 ∨ ¬ v1 < 6) : vx_Met l yX6_input wsX6_input rmTX6_input (va_Pc [.ref (aU 0), .int v1, .int v2] (PreX D k (wU k aU xI xL xS xB xV xC Uformulas Udrawn Umodels) sz)) NQ (XQ D k (wU k aU xI xL xS xB xV xC Uformulas Udrawn Umodels) sz exI) 1 6 (va_A (wU k aU xI xL xS xB xV xC Uformulas Udrawn Umodels) sz) := by
  refine vx_ofW (cc := cX6_input) (maxL := 3) (ret := (some .int)) (by decide) rfl ?_
  intro p e s m args below meth c s₁ B hml htab hv
  obtain ⟨hav, ⟨hsz, hP, hK, hD0⟩, hXP⟩ := hv
  have hx := B.exec
  have hb := B.bytes
  have hts := atoms_spec (ws := wsX6_input) B.pre
  have hown : s.vm.findClass RX6 = some m.cls := findClass_of_methodNamed B.named
  have hlocks := B.notSynchronized
  subst hsz
  have hD := hD0.self (sz := s.heap.size)
  clear hD0
  obtain ⟨A, hAe⟩ : ∃ A, va_A (wU k aU xI xL xS xB xV xC Uformulas Udrawn Umodels) s.heap.size = A := ⟨_, rfl⟩
  rw [hAe] at hD hXP
  have hA : ∀ q : Nat, s.heap.size ≤ q → A q := fun q h => by rw [← hAe]; exact Or.inr h
  have hS : va_S A s.heap s.heap [] := va_S.rf
  have hl := lv_entry ([.ref (aU 0), .int v1, .int v2]) (n := 3) (Nat.le_of_ble_eq_true rfl)
  rw [show entryFrame m args 3 = entryFrame m ([.ref (aU 0), .int v1, .int v2] : List Value).toArray 3 from by rw [hav], lg_entry_eq]
  generalize (lg_sl ([.ref (aU 0), .int v1, .int v2]) ++ List.replicate (3 - (lg_sl ([.ref (aU 0), .int v1, .int v2])).length) Slot.unset).toArray = ls at hl ⊢
  replace hl : lv_has ls 3 [(0, .ref (aU 0)), (1, .int v1), (2, .int v2)] := hl
  show W p l e rmTX6_input s m args below meth c s.heap [] 0 0 _ (F0 m 0 ls [])
  suffices main : ∀ (H : Heap) (locs : List Loc) (ls : Array Slot), va_P D vwCl (wU k aU xI xL xS xB xV xC Uformulas Udrawn Umodels) H → va_D A (wU k aU xI xL xS xB xV xC Uformulas Udrawn Umodels) → va_S A s.heap H locs → lv_has ls 3 [(0, .ref (aU 0)), (1, .int v1), (2, .int v2)] → W p l e rmTX6_input s m args below meth c H locs 0 0 _ (F0 m 0 ls []) from main _ _ _ hP hD hS hl
  clear hP hD hS hl ls
  intro H locs ls hP hD hS hl
  refine lv_iload_n hx hb dX6_input_0 rfl (lv_at hl 1 rfl) ?_
  have hPc := hP.sub (ws' := ([] : va_W)) [] rfl
  have hDc := hD.sub (ws' := ([] : va_W)) [] rfl rfl
  have hFc := va_free (wc := ([] : va_W)) hD hS hA [] rfl
  exact xt_v (vx_runS (As := [.int v1]) (rest := []) ⟨hx, hb, hml, hown, hts⟩ (thr_X6_checkInput l hst D k H.size v1 k1) (va_cwS 1 hts gX6_input_X6_checkInput rfl rfl rfl (by decide +kernel) ⟨Nat.le_of_ble_eq_true rfl, Nat.le_of_ble_eq_true rfl⟩) ⟨px_blind, px_start hPc hK hDc (XP.keep hXP hS.2.1) hFc⟩ rfl rfl hl.1 rfl (lv_room (Nat.le_of_ble_eq_true rfl)) dX6_input_1 ⟨Nat.le_refl _, Nat.le_refl _⟩) hAe hP hK hD hS hFc (fun H1 hP1 hD1 hk1 => vk hP hD [] rfl hk1 hP1) htab hlocks
set_option maxHeartbeats 4000000 in
set_option maxRecDepth 100000 in
theorem thr_X6_input_1 (l : Launch) (hst : l.stackTraces = false) (D : va_G) (k : Nat → ClassId) (aU : Nat → Nat) (xI xL xS xB xV xC : Nat) (sz : Nat) (Uformulas : Nat → Option Nat) (Udrawn : Nat → Int32) (Umodels : Int32) (v1 : Int32) (v2 : Int32)  (k2 : fX6_checkInput v1 = some ()) (k3 : v2 < 0 ∨ ¬ v2 ≤ 4) : vx_Met l yX6_input wsX6_input rmTX6_input (va_Pc [.ref (aU 0), .int v1, .int v2] (PreX D k (wU k aU xI xL xS xB xV xC Uformulas Udrawn Umodels) sz)) NQ (XQ D k (wU k aU xI xL xS xB xV xC Uformulas Udrawn Umodels) sz exA) 1 6 (va_A (wU k aU xI xL xS xB xV xC Uformulas Udrawn Umodels) sz) := by
  refine vx_ofW (cc := cX6_input) (maxL := 3) (ret := (some .int)) (by decide) rfl ?_
  intro p e s m args below meth c s₁ B hml htab hv
  obtain ⟨hav, ⟨hsz, hP, hK, hD0⟩, hXP⟩ := hv
  have hx := B.exec
  have hb := B.bytes
  have hts := atoms_spec (ws := wsX6_input) B.pre
  have hown : s.vm.findClass RX6 = some m.cls := findClass_of_methodNamed B.named
  have hlocks := B.notSynchronized
  subst hsz
  have hD := hD0.self (sz := s.heap.size)
  clear hD0
  obtain ⟨A, hAe⟩ : ∃ A, va_A (wU k aU xI xL xS xB xV xC Uformulas Udrawn Umodels) s.heap.size = A := ⟨_, rfl⟩
  rw [hAe] at hD hXP
  have hA : ∀ q : Nat, s.heap.size ≤ q → A q := fun q h => by rw [← hAe]; exact Or.inr h
  have hS : va_S A s.heap s.heap [] := va_S.rf
  have hl := lv_entry ([.ref (aU 0), .int v1, .int v2]) (n := 3) (Nat.le_of_ble_eq_true rfl)
  rw [show entryFrame m args 3 = entryFrame m ([.ref (aU 0), .int v1, .int v2] : List Value).toArray 3 from by rw [hav], lg_entry_eq]
  generalize (lg_sl ([.ref (aU 0), .int v1, .int v2]) ++ List.replicate (3 - (lg_sl ([.ref (aU 0), .int v1, .int v2])).length) Slot.unset).toArray = ls at hl ⊢
  replace hl : lv_has ls 3 [(0, .ref (aU 0)), (1, .int v1), (2, .int v2)] := hl
  show W p l e rmTX6_input s m args below meth c s.heap [] 0 0 _ (F0 m 0 ls [])
  suffices main : ∀ (H : Heap) (locs : List Loc) (ls : Array Slot), va_P D vwCl (wU k aU xI xL xS xB xV xC Uformulas Udrawn Umodels) H → va_D A (wU k aU xI xL xS xB xV xC Uformulas Udrawn Umodels) → va_S A s.heap H locs → lv_has ls 3 [(0, .ref (aU 0)), (1, .int v1), (2, .int v2)] → W p l e rmTX6_input s m args below meth c H locs 0 0 _ (F0 m 0 ls []) from main _ _ _ hP hD hS hl
  clear hP hD hS hl ls
  intro H locs ls hP hD hS hl
  refine lv_iload_n hx hb dX6_input_0 rfl (lv_at hl 1 rfl) ?_
  have hPc := hP.sub (ws' := ([] : va_W)) [] rfl
  have hDc := hD.sub (ws' := ([] : va_W)) [] rfl rfl
  have hFc := va_free (wc := ([] : va_W)) hD hS hA [] rfl
  refine xc_v (va_runS (As := [.int v1]) (rest := []) ⟨hx, hb, hml, hown, hts⟩ (met_X6_checkInput l D k H.size v1 k2) (va_cwS 1 hts gX6_input_X6_checkInput rfl rfl rfl (by decide +kernel) ⟨Nat.le_of_ble_eq_true rfl, Nat.le_of_ble_eq_true rfl⟩) ⟨pw_blind, pw_start hPc hK hDc⟩ rfl rfl hl.1 rfl (lv_room (Nat.le_of_ble_eq_true rfl)) dX6_input_1 ⟨Nat.zero_le _, Nat.zero_le _⟩) hS hFc (fun H1 locs hP1 hD1 hk1 hS => ?_)
  obtain ⟨hP, hD⟩ := vk hP hD [] rfl hk1 hP1
  clear hP1 hD1 hk1 hFc
  generalize H1 = H at hP hS ⊢
  refine lv_iload_n hx hb dX6_input_4 rfl (lv_at hl 2 rfl) ?_
  refine lv_iconst (v := 0) hx hb dX6_input_5 (by decide) ?_
  refine lv_iconst (v := 4) hx hb dX6_input_6 (by decide) ?_
  have hPc := hP.sub (ws' := ([] : va_W)) [] rfl
  have hDc := hD.sub (ws' := ([] : va_W)) [] rfl rfl
  have hFc := va_free (wc := ([] : va_W)) hD hS hA [] rfl
  exact xt_v (vx_runS (As := [.int v2, .int 0, .int 4]) (rest := []) ⟨hx, hb, hml, hown, hts⟩ (thr_X6_checkRange l hst D k H.size v2 0 4 k3) (va_cwS 3 hts gX6_input_X6_checkRange rfl rfl rfl (by decide +kernel) ⟨Nat.le_of_ble_eq_true rfl, Nat.le_of_ble_eq_true rfl⟩) ⟨px_blind, px_start hPc hK hDc (XP.keep hXP hS.2.1) hFc⟩ rfl rfl hl.1 rfl (lv_room (Nat.le_of_ble_eq_true rfl)) dX6_input_7 ⟨Nat.le_refl _, Nat.le_refl _⟩) hAe hP hK hD hS hFc (fun H1 hP1 hD1 hk1 => vk hP hD [] rfl hk1 hP1) htab hlocks
abbrev rmTX6_type : Room := { frames := 8, cells := 1, slots := 6, locals := 400 }
set_option maxHeartbeats 4000000 in
set_option maxRecDepth 100000 in
theorem thr_X6_type_0 (l : Launch) (hst : l.stackTraces = false) (D : va_G) (k : Nat → ClassId) (aU : Nat → Nat) (aL : Nat → Nat) (xI xS xB xV xC : Nat) (sz : Nat) (Uformulas : Nat → Option Nat) (Udrawn : Nat → Int32) (Umodels : Int32) (Lsigns : Nat → Int32) (Llength : Int32) (Lat : Int32) (v1 : Int64) (r1 : Int32) (k1 : fX5_countSigns v1 = some r1) (c2 : ¬ (r1 = ((-1)))) (c3 : ¬ ((Llength + r1) ≤ 60)) : vx_Met l yX6_type wsX6_type rmTX6_type (va_Pc [.ref (aU 0), .long v1] (PreX D k ((wU k aU xI (aL 0) xS xB xV xC Uformulas Udrawn Umodels) ++ (wL k aL Lsigns Llength Lat)) sz)) NQ (XQ D k ((wU k aU xI (aL 0) xS xB xV xC Uformulas Udrawn Umodels) ++ (wL k aL Lsigns Llength Lat)) sz exS) 1 6 (va_A ((wU k aU xI (aL 0) xS xB xV xC Uformulas Udrawn Umodels) ++ (wL k aL Lsigns Llength Lat)) sz) := by
  refine vx_ofW (cc := cX6_type) (maxL := 4) (ret := (some .int)) (by decide) rfl ?_
  intro p e s m args below meth c s₁ B hml htab hv
  obtain ⟨hav, ⟨hsz, hP, hK, hD0⟩, hXP⟩ := hv
  have hx := B.exec
  have hb := B.bytes
  have hts := atoms_spec (ws := wsX6_type) B.pre
  have hown : s.vm.findClass RX6 = some m.cls := findClass_of_methodNamed B.named
  have hlocks := B.notSynchronized
  subst hsz
  have hD := hD0.self (sz := s.heap.size)
  clear hD0
  obtain ⟨A, hAe⟩ : ∃ A, va_A ((wU k aU xI (aL 0) xS xB xV xC Uformulas Udrawn Umodels) ++ (wL k aL Lsigns Llength Lat)) s.heap.size = A := ⟨_, rfl⟩
  rw [hAe] at hD hXP
  have hA : ∀ q : Nat, s.heap.size ≤ q → A q := fun q h => by rw [← hAe]; exact Or.inr h
  have hS : va_S A s.heap s.heap [] := va_S.rf
  have hl := lv_entry ([.ref (aU 0), .long v1]) (n := 4) (Nat.le_of_ble_eq_true rfl)
  rw [show entryFrame m args 4 = entryFrame m ([.ref (aU 0), .long v1] : List Value).toArray 4 from by rw [hav], lg_entry_eq]
  generalize (lg_sl ([.ref (aU 0), .long v1]) ++ List.replicate (4 - (lg_sl ([.ref (aU 0), .long v1])).length) Slot.unset).toArray = ls at hl ⊢
  replace hl : lv_has ls 4 [(0, .ref (aU 0)), (1, .long v1)] := hl
  have iX6 : ∀ w ∈ u_ws RX6 TX6 9, w ∈ wsX6_type := by decide +kernel
  have iX5 : ∀ w ∈ u_ws RX5 TX5 3, w ∈ wsX6_type := by decide +kernel
  show W p l e rmTX6_type s m args below meth c s.heap [] 0 0 _ (F0 m 0 ls [])
  suffices main : ∀ (H : Heap) (locs : List Loc) (ls : Array Slot), va_P D vwCl ((wU k aU xI (aL 0) xS xB xV xC Uformulas Udrawn Umodels) ++ (wL k aL Lsigns Llength Lat)) H → va_D A ((wU k aU xI (aL 0) xS xB xV xC Uformulas Udrawn Umodels) ++ (wL k aL Lsigns Llength Lat)) → va_S A s.heap H locs → lv_has ls 4 [(0, .ref (aU 0)), (1, .long v1)] → W p l e rmTX6_type s m args below meth c H locs 0 0 _ (F0 m 0 ls []) from main _ _ _ hP hD hS hl
  clear hP hD hS hl ls
  intro H locs ls hP hD hS hl
  refine lv_lload_n hx hb dX6_type_0 rfl (lv_at hl 1 rfl) ?_
  have hPc := hP.sub (ws' := ([] : va_W)) [] rfl
  have hDc := hD.sub (ws' := ([] : va_W)) [] rfl rfl
  have hFc := va_free (wc := ([] : va_W)) hD hS hA [] rfl
  refine xc_i (va_runS (As := [.long v1]) (rest := []) ⟨hx, hb, hml, hown, hts⟩ (met_X5_countSigns l D k H.size v1 r1 k1) (va_cwS 1 hts gX6_type_X5_countSigns rfl rfl rfl (by decide +kernel) ⟨Nat.le_of_ble_eq_true rfl, Nat.le_of_ble_eq_true rfl⟩) ⟨pw_blind, pw_start hPc hK hDc⟩ rfl rfl hl.1 rfl (lv_room (Nat.le_of_ble_eq_true rfl)) dX6_type_1 ⟨Nat.zero_le _, Nat.zero_le _⟩) hS hFc (fun H1 locs hP1 hD1 hk1 hS => ?_)
  obtain ⟨hP, hD⟩ := vk hP hD [] rfl hk1 hP1
  clear hP1 hD1 hk1 hFc
  generalize H1 = H at hP hS ⊢
  refine lv_istore_n (lv' := [(3, .int r1), (0, .ref (aU 0)), (1, .long v1)]) hx hb dX6_type_4 rfl hl (by decide) rfl (fun ls hl => ?_)
  refine lv_iload_n hx hb dX6_type_5 rfl (lv_at hl 0 rfl) ?_
  refine lv_iconst (v := -1) hx hb dX6_type_6 (by decide) ?_
  refine lv_icmp_ne (tgt := 20) hx hb dX6_type_7 (by decide) (fun _ => ?_) (fun q => absurd q c2)
  refine lv_aload_n hx hb dX6_type_20 rfl (lv_at hl 1 rfl) ?_
  refine va_get (D := D) (ci := 6) (v := .ref (aL 0)) (C := RX6) (T := TX6) (N := 9) hx hb hts iX6 hown hK hP 0 rfl rfl 1 (by decide) (hts (.fieldLink RX6 19 "UncertainBook" "line" "LUncertainBook$Line;") (by decide +kernel)) (fun _ h9 => h9) rfl dX6_type_21 ?_
  refine va_get (D := D) (ci := 5) (v := .int Llength) (C := RX5) (T := TX5) (N := 3) hx hb hts iX5 hown hK hP 3 rfl rfl 1 (by decide) (hts (.fieldLink RX6 130 "UncertainBook$Line" "length" "I") (by decide +kernel)) (fun _ h9 => h9) rfl dX6_type_24 ?_
  refine lv_iload_n hx hb dX6_type_27 rfl (lv_at hl 0 rfl) ?_
  refine lv_iadd hx hb dX6_type_28 ?_
  refine lv_bipush (v := 60) hx hb dX6_type_29 (by decide) ?_
  refine lv_icmp_le (tgt := 44) hx hb dX6_type_31 (by decide) (fun q => absurd q c3) (fun _ => ?_)
  obtain ⟨sa, hstr⟩ := hXP.2.2.1 (133, "the line would be too long") (by decide +kernel)
  have hg : ∀ w ∈ (vx_atS RX6 82 exS ["java/lang/RuntimeException", "java/lang/Exception"]).filter goodWord, w ∈ wsX6_type := by decide +kernel
  have hat : ∀ w ∈ vx_atS RX6 82 exS ["java/lang/RuntimeException", "java/lang/Exception"], w.before args s = true := vx_hat (B := [.castable exS exS, .declares (Bundle.initS "java/lang/RuntimeException"), .declares (Bundle.initS "java/lang/Exception"), .declares (Bundle.initS "java/lang/Throwable")]) (fun w hw => hts w (hg w hw)) (by decide +kernel) (vx_c (va_Nw.use rfl (hXP.2.2.2.1 exS (by decide +kernel))) (vx_c (va_Nw.use rfl (hXP.2.2.2.2 _ (by decide +kernel))) (vx_c (va_Nw.use rfl (hXP.2.2.2.2 _ (by decide +kernel))) (vx_c (va_Nw.use rfl (hXP.2.2.2.2 _ (by decide +kernel))) vx_n))))
  exact vx_throwS (own := RX6) (cls := exS) (text := "the line would be too long") (names := ["java/lang/RuntimeException", "java/lang/Exception"]) (ik := 78) (is := 133) (ic := 82) (sa := sa) (A := A) hx hb hst hown (by decide +kernel) (by decide +kernel) (hts (.classLink RX6 78 exS) (by decide +kernel)) (hts (.initialized exS) (by decide +kernel)) hstr hat (by decide +kernel) hXP.1 hXP.2.1 hS (hl.1.trans hml.symm) dX6_type_34 dX6_type_37 dX6_type_38 dX6_type_40 dX6_type_43 (fun x hx => (htab x hx).elim) (Nat.le_of_ble_eq_true rfl) (Nat.le_of_ble_eq_true rfl) (Nat.le_refl _) (Nat.le_refl _) hlocks (xq_of hAe hP hK hD hS) (fun z hz => by rw [hAe]; exact hS.2.2 z hz) (Nat.le_refl _) (Nat.le_refl _)
set_option maxHeartbeats 4000000 in
set_option maxRecDepth 100000 in
theorem thr_X6_type_1 (l : Launch) (hst : l.stackTraces = false) (D : va_G) (k : Nat → ClassId) (aU : Nat → Nat) (aL : Nat → Nat) (xI xS xB xV xC : Nat) (sz : Nat) (Uformulas : Nat → Option Nat) (Udrawn : Nat → Int32) (Umodels : Int32) (Lsigns : Nat → Int32) (Llength : Int32) (Lat : Int32) (v1 : Int64) (r1 : Int32) (k1 : fX5_countSigns v1 = some r1) (c2 : r1 = ((-1))) : vx_Met l yX6_type wsX6_type rmTX6_type (va_Pc [.ref (aU 0), .long v1] (PreX D k ((wU k aU xI (aL 0) xS xB xV xC Uformulas Udrawn Umodels) ++ (wL k aL Lsigns Llength Lat)) sz)) NQ (XQ D k ((wU k aU xI (aL 0) xS xB xV xC Uformulas Udrawn Umodels) ++ (wL k aL Lsigns Llength Lat)) sz exA) 1 6 (va_A ((wU k aU xI (aL 0) xS xB xV xC Uformulas Udrawn Umodels) ++ (wL k aL Lsigns Llength Lat)) sz) := by
  refine vx_ofW (cc := cX6_type) (maxL := 4) (ret := (some .int)) (by decide) rfl ?_
  intro p e s m args below meth c s₁ B hml htab hv
  obtain ⟨hav, ⟨hsz, hP, hK, hD0⟩, hXP⟩ := hv
  have hx := B.exec
  have hb := B.bytes
  have hts := atoms_spec (ws := wsX6_type) B.pre
  have hown : s.vm.findClass RX6 = some m.cls := findClass_of_methodNamed B.named
  have hlocks := B.notSynchronized
  subst hsz
  have hD := hD0.self (sz := s.heap.size)
  clear hD0
  obtain ⟨A, hAe⟩ : ∃ A, va_A ((wU k aU xI (aL 0) xS xB xV xC Uformulas Udrawn Umodels) ++ (wL k aL Lsigns Llength Lat)) s.heap.size = A := ⟨_, rfl⟩
  rw [hAe] at hD hXP
  have hA : ∀ q : Nat, s.heap.size ≤ q → A q := fun q h => by rw [← hAe]; exact Or.inr h
  have hS : va_S A s.heap s.heap [] := va_S.rf
  have hl := lv_entry ([.ref (aU 0), .long v1]) (n := 4) (Nat.le_of_ble_eq_true rfl)
  rw [show entryFrame m args 4 = entryFrame m ([.ref (aU 0), .long v1] : List Value).toArray 4 from by rw [hav], lg_entry_eq]
  generalize (lg_sl ([.ref (aU 0), .long v1]) ++ List.replicate (4 - (lg_sl ([.ref (aU 0), .long v1])).length) Slot.unset).toArray = ls at hl ⊢
  replace hl : lv_has ls 4 [(0, .ref (aU 0)), (1, .long v1)] := hl
  show W p l e rmTX6_type s m args below meth c s.heap [] 0 0 _ (F0 m 0 ls [])
  suffices main : ∀ (H : Heap) (locs : List Loc) (ls : Array Slot), va_P D vwCl ((wU k aU xI (aL 0) xS xB xV xC Uformulas Udrawn Umodels) ++ (wL k aL Lsigns Llength Lat)) H → va_D A ((wU k aU xI (aL 0) xS xB xV xC Uformulas Udrawn Umodels) ++ (wL k aL Lsigns Llength Lat)) → va_S A s.heap H locs → lv_has ls 4 [(0, .ref (aU 0)), (1, .long v1)] → W p l e rmTX6_type s m args below meth c H locs 0 0 _ (F0 m 0 ls []) from main _ _ _ hP hD hS hl
  clear hP hD hS hl ls
  intro H locs ls hP hD hS hl
  refine lv_lload_n hx hb dX6_type_0 rfl (lv_at hl 1 rfl) ?_
  have hPc := hP.sub (ws' := ([] : va_W)) [] rfl
  have hDc := hD.sub (ws' := ([] : va_W)) [] rfl rfl
  have hFc := va_free (wc := ([] : va_W)) hD hS hA [] rfl
  refine xc_i (va_runS (As := [.long v1]) (rest := []) ⟨hx, hb, hml, hown, hts⟩ (met_X5_countSigns l D k H.size v1 r1 k1) (va_cwS 1 hts gX6_type_X5_countSigns rfl rfl rfl (by decide +kernel) ⟨Nat.le_of_ble_eq_true rfl, Nat.le_of_ble_eq_true rfl⟩) ⟨pw_blind, pw_start hPc hK hDc⟩ rfl rfl hl.1 rfl (lv_room (Nat.le_of_ble_eq_true rfl)) dX6_type_1 ⟨Nat.zero_le _, Nat.zero_le _⟩) hS hFc (fun H1 locs hP1 hD1 hk1 hS => ?_)
  obtain ⟨hP, hD⟩ := vk hP hD [] rfl hk1 hP1
  clear hP1 hD1 hk1 hFc
  generalize H1 = H at hP hS ⊢
  refine lv_istore_n (lv' := [(3, .int r1), (0, .ref (aU 0)), (1, .long v1)]) hx hb dX6_type_4 rfl hl (by decide) rfl (fun ls hl => ?_)
  refine lv_iload_n hx hb dX6_type_5 rfl (lv_at hl 0 rfl) ?_
  refine lv_iconst (v := -1) hx hb dX6_type_6 (by decide) ?_
  refine lv_icmp_ne (tgt := 20) hx hb dX6_type_7 (by decide) (fun q => absurd c2 q) (fun _ => ?_)
  obtain ⟨sa, hstr⟩ := hXP.2.2.1 (128, "a sign is out of range") (by decide +kernel)
  have hg : ∀ w ∈ (vx_atS RX6 103 exA ["java/lang/RuntimeException", "java/lang/Exception"]).filter goodWord, w ∈ wsX6_type := by decide +kernel
  have hat : ∀ w ∈ vx_atS RX6 103 exA ["java/lang/RuntimeException", "java/lang/Exception"], w.before args s = true := vx_hat (B := [.castable exA exA, .declares (Bundle.initS "java/lang/RuntimeException"), .declares (Bundle.initS "java/lang/Exception"), .declares (Bundle.initS "java/lang/Throwable")]) (fun w hw => hts w (hg w hw)) (by decide +kernel) (vx_c (va_Nw.use rfl (hXP.2.2.2.1 exA (by decide +kernel))) (vx_c (va_Nw.use rfl (hXP.2.2.2.2 _ (by decide +kernel))) (vx_c (va_Nw.use rfl (hXP.2.2.2.2 _ (by decide +kernel))) (vx_c (va_Nw.use rfl (hXP.2.2.2.2 _ (by decide +kernel))) vx_n))))
  exact vx_throwS (own := RX6) (cls := exA) (text := "a sign is out of range") (names := ["java/lang/RuntimeException", "java/lang/Exception"]) (ik := 99) (is := 128) (ic := 103) (sa := sa) (A := A) hx hb hst hown (by decide +kernel) (by decide +kernel) (hts (.classLink RX6 99 exA) (by decide +kernel)) (hts (.initialized exA) (by decide +kernel)) hstr hat (by decide +kernel) hXP.1 hXP.2.1 hS (hl.1.trans hml.symm) dX6_type_10 dX6_type_13 dX6_type_14 dX6_type_16 dX6_type_19 (fun x hx => (htab x hx).elim) (Nat.le_of_ble_eq_true rfl) (Nat.le_of_ble_eq_true rfl) (Nat.le_refl _) (Nat.le_refl _) hlocks (xq_of hAe hP hK hD hS) (fun z hz => by rw [hAe]; exact hS.2.2 z hz) (Nat.le_refl _) (Nat.le_refl _)
abbrev rmTX6_model : Room := { frames := 6, cells := 1, slots := 6, locals := 90 }
set_option maxHeartbeats 4000000 in
set_option maxRecDepth 100000 in
theorem thr_X6_model_0 (l : Launch) (hst : l.stackTraces = false) (D : va_G) (k : Nat → ClassId) (aU : Nat → Nat) (xI xL xS xB xV xC : Nat) (sz : Nat) (Uformulas : Nat → Option Nat) (Udrawn : Nat → Int32) (Umodels : Int32) (v1 : Int32)  (c1 : v1 < 0) : vx_Met l yX6_model wsX6_model rmTX6_model (va_Pc [.ref (aU 0), .int v1] (PreX D k (wU k aU xI xL xS xB xV xC Uformulas Udrawn Umodels) sz)) NQ (XQ D k (wU k aU xI xL xS xB xV xC Uformulas Udrawn Umodels) sz exI) 1 6 (va_A (wU k aU xI xL xS xB xV xC Uformulas Udrawn Umodels) sz) := by
  refine vx_ofW (cc := cX6_model) (maxL := 5) (ret := (some .int)) (by decide) rfl ?_
  intro p e s m args below meth c s₁ B hml htab hv
  obtain ⟨hav, ⟨hsz, hP, hK, hD0⟩, hXP⟩ := hv
  have hx := B.exec
  have hb := B.bytes
  have hts := atoms_spec (ws := wsX6_model) B.pre
  have hown : s.vm.findClass RX6 = some m.cls := findClass_of_methodNamed B.named
  have hlocks := B.notSynchronized
  subst hsz
  have hD := hD0.self (sz := s.heap.size)
  clear hD0
  obtain ⟨A, hAe⟩ : ∃ A, va_A (wU k aU xI xL xS xB xV xC Uformulas Udrawn Umodels) s.heap.size = A := ⟨_, rfl⟩
  rw [hAe] at hD hXP
  have hA : ∀ q : Nat, s.heap.size ≤ q → A q := fun q h => by rw [← hAe]; exact Or.inr h
  have hS : va_S A s.heap s.heap [] := va_S.rf
  have hl := lv_entry ([.ref (aU 0), .int v1]) (n := 5) (Nat.le_of_ble_eq_true rfl)
  rw [show entryFrame m args 5 = entryFrame m ([.ref (aU 0), .int v1] : List Value).toArray 5 from by rw [hav], lg_entry_eq]
  generalize (lg_sl ([.ref (aU 0), .int v1]) ++ List.replicate (5 - (lg_sl ([.ref (aU 0), .int v1])).length) Slot.unset).toArray = ls at hl ⊢
  replace hl : lv_has ls 5 [(0, .ref (aU 0)), (1, .int v1)] := hl
  show W p l e rmTX6_model s m args below meth c s.heap [] 0 0 _ (F0 m 0 ls [])
  suffices main : ∀ (H : Heap) (locs : List Loc) (ls : Array Slot), va_P D vwCl (wU k aU xI xL xS xB xV xC Uformulas Udrawn Umodels) H → va_D A (wU k aU xI xL xS xB xV xC Uformulas Udrawn Umodels) → va_S A s.heap H locs → lv_has ls 5 [(0, .ref (aU 0)), (1, .int v1)] → W p l e rmTX6_model s m args below meth c H locs 0 0 _ (F0 m 0 ls []) from main _ _ _ hP hD hS hl
  clear hP hD hS hl ls
  intro H locs ls hP hD hS hl
  refine lv_iload_n hx hb dX6_model_0 rfl (lv_at hl 1 rfl) ?_
  refine lv_if_lt (tgt := 12) hx hb dX6_model_1 (by decide) (fun _ => ?_) (fun q => absurd c1 q)
  obtain ⟨sa, hstr⟩ := hXP.2.2.1 (141, "no such model") (by decide +kernel)
  have hg : ∀ w ∈ (vx_atS RX6 143 exI ["java/lang/RuntimeException", "java/lang/Exception"]).filter goodWord, w ∈ wsX6_model := by decide +kernel
  have hat : ∀ w ∈ vx_atS RX6 143 exI ["java/lang/RuntimeException", "java/lang/Exception"], w.before args s = true := vx_hat (B := [.castable exI exI, .declares (Bundle.initS "java/lang/RuntimeException"), .declares (Bundle.initS "java/lang/Exception"), .declares (Bundle.initS "java/lang/Throwable")]) (fun w hw => hts w (hg w hw)) (by decide +kernel) (vx_c (va_Nw.use rfl (hXP.2.2.2.1 exI (by decide +kernel))) (vx_c (va_Nw.use rfl (hXP.2.2.2.2 _ (by decide +kernel))) (vx_c (va_Nw.use rfl (hXP.2.2.2.2 _ (by decide +kernel))) (vx_c (va_Nw.use rfl (hXP.2.2.2.2 _ (by decide +kernel))) vx_n))))
  exact vx_throwS (own := RX6) (cls := exI) (text := "no such model") (names := ["java/lang/RuntimeException", "java/lang/Exception"]) (ik := 139) (is := 141) (ic := 143) (sa := sa) (A := A) hx hb hst hown (by decide +kernel) (by decide +kernel) (hts (.classLink RX6 139 exI) (by decide +kernel)) (hts (.initialized exI) (by decide +kernel)) hstr hat (by decide +kernel) hXP.1 hXP.2.1 hS (hl.1.trans hml.symm) dX6_model_12 dX6_model_15 dX6_model_16 dX6_model_18 dX6_model_21 (fun x hx => (htab x hx).elim) (Nat.le_of_ble_eq_true rfl) (Nat.le_of_ble_eq_true rfl) (Nat.le_refl _) (Nat.le_refl _) hlocks (xq_of hAe hP hK hD hS) (fun z hz => by rw [hAe]; exact hS.2.2 z hz) (Nat.le_refl _) (Nat.le_refl _)
set_option maxHeartbeats 4000000 in
set_option maxRecDepth 100000 in
theorem thr_X6_model_1 (l : Launch) (hst : l.stackTraces = false) (D : va_G) (k : Nat → ClassId) (aU : Nat → Nat) (xI xL xS xB xV xC : Nat) (sz : Nat) (Uformulas : Nat → Option Nat) (Udrawn : Nat → Int32) (Umodels : Int32) (v1 : Int32)  (c1 : ¬ (v1 < 0)) (c2 : v1 ≤ Umodels) (c3 : ¬ (v1 < 8)) : vx_Met l yX6_model wsX6_model rmTX6_model (va_Pc [.ref (aU 0), .int v1] (PreX D k (wU k aU xI xL xS xB xV xC Uformulas Udrawn Umodels) sz)) NQ (XQ D k (wU k aU xI xL xS xB xV xC Uformulas Udrawn Umodels) sz exS) 1 6 (va_A (wU k aU xI xL xS xB xV xC Uformulas Udrawn Umodels) sz) := by
  refine vx_ofW (cc := cX6_model) (maxL := 5) (ret := (some .int)) (by decide) rfl ?_
  intro p e s m args below meth c s₁ B hml htab hv
  obtain ⟨hav, ⟨hsz, hP, hK, hD0⟩, hXP⟩ := hv
  have hx := B.exec
  have hb := B.bytes
  have hts := atoms_spec (ws := wsX6_model) B.pre
  have hown : s.vm.findClass RX6 = some m.cls := findClass_of_methodNamed B.named
  have hlocks := B.notSynchronized
  subst hsz
  have hD := hD0.self (sz := s.heap.size)
  clear hD0
  obtain ⟨A, hAe⟩ : ∃ A, va_A (wU k aU xI xL xS xB xV xC Uformulas Udrawn Umodels) s.heap.size = A := ⟨_, rfl⟩
  rw [hAe] at hD hXP
  have hA : ∀ q : Nat, s.heap.size ≤ q → A q := fun q h => by rw [← hAe]; exact Or.inr h
  have hS : va_S A s.heap s.heap [] := va_S.rf
  have hl := lv_entry ([.ref (aU 0), .int v1]) (n := 5) (Nat.le_of_ble_eq_true rfl)
  rw [show entryFrame m args 5 = entryFrame m ([.ref (aU 0), .int v1] : List Value).toArray 5 from by rw [hav], lg_entry_eq]
  generalize (lg_sl ([.ref (aU 0), .int v1]) ++ List.replicate (5 - (lg_sl ([.ref (aU 0), .int v1])).length) Slot.unset).toArray = ls at hl ⊢
  replace hl : lv_has ls 5 [(0, .ref (aU 0)), (1, .int v1)] := hl
  have iX6 : ∀ w ∈ u_ws RX6 TX6 9, w ∈ wsX6_model := by decide +kernel
  show W p l e rmTX6_model s m args below meth c s.heap [] 0 0 _ (F0 m 0 ls [])
  suffices main : ∀ (H : Heap) (locs : List Loc) (ls : Array Slot), va_P D vwCl (wU k aU xI xL xS xB xV xC Uformulas Udrawn Umodels) H → va_D A (wU k aU xI xL xS xB xV xC Uformulas Udrawn Umodels) → va_S A s.heap H locs → lv_has ls 5 [(0, .ref (aU 0)), (1, .int v1)] → W p l e rmTX6_model s m args below meth c H locs 0 0 _ (F0 m 0 ls []) from main _ _ _ hP hD hS hl
  clear hP hD hS hl ls
  intro H locs ls hP hD hS hl
  refine lv_iload_n hx hb dX6_model_0 rfl (lv_at hl 1 rfl) ?_
  refine lv_if_lt (tgt := 12) hx hb dX6_model_1 (by decide) (fun q => absurd q c1) (fun _ => ?_)
  refine lv_iload_n hx hb dX6_model_4 rfl (lv_at hl 1 rfl) ?_
  refine lv_aload_n hx hb dX6_model_5 rfl (lv_at hl 0 rfl) ?_
  refine va_get (D := D) (ci := 6) (v := .int Umodels) (C := RX6) (T := TX6) (N := 9) hx hb hts iX6 hown hK hP 0 rfl rfl 3 (by decide) (hts (.fieldLink RX6 29 "UncertainBook" "models" "I") (by decide +kernel)) (fun _ h9 => h9) rfl dX6_model_6 ?_
  refine lv_icmp_le (tgt := 22) hx hb dX6_model_9 (by decide) (fun _ => ?_) (fun q => absurd c2 q)
  refine lv_iload_n hx hb dX6_model_22 rfl (lv_at hl 1 rfl) ?_
  refine lv_bipush (v := 8) hx hb dX6_model_23 (by decide) ?_
  refine lv_icmp_lt (tgt := 38) hx hb dX6_model_25 (by decide) (fun q => absurd q c3) (fun _ => ?_)
  obtain ⟨sa, hstr⟩ := hXP.2.2.1 (144, "there are all the models") (by decide +kernel)
  have hg : ∀ w ∈ (vx_atS RX6 82 exS ["java/lang/RuntimeException", "java/lang/Exception"]).filter goodWord, w ∈ wsX6_model := by decide +kernel
  have hat : ∀ w ∈ vx_atS RX6 82 exS ["java/lang/RuntimeException", "java/lang/Exception"], w.before args s = true := vx_hat (B := [.castable exS exS, .declares (Bundle.initS "java/lang/RuntimeException"), .declares (Bundle.initS "java/lang/Exception"), .declares (Bundle.initS "java/lang/Throwable")]) (fun w hw => hts w (hg w hw)) (by decide +kernel) (vx_c (va_Nw.use rfl (hXP.2.2.2.1 exS (by decide +kernel))) (vx_c (va_Nw.use rfl (hXP.2.2.2.2 _ (by decide +kernel))) (vx_c (va_Nw.use rfl (hXP.2.2.2.2 _ (by decide +kernel))) (vx_c (va_Nw.use rfl (hXP.2.2.2.2 _ (by decide +kernel))) vx_n))))
  exact vx_throwS (own := RX6) (cls := exS) (text := "there are all the models") (names := ["java/lang/RuntimeException", "java/lang/Exception"]) (ik := 78) (is := 144) (ic := 82) (sa := sa) (A := A) hx hb hst hown (by decide +kernel) (by decide +kernel) (hts (.classLink RX6 78 exS) (by decide +kernel)) (hts (.initialized exS) (by decide +kernel)) hstr hat (by decide +kernel) hXP.1 hXP.2.1 hS (hl.1.trans hml.symm) dX6_model_28 dX6_model_31 dX6_model_32 dX6_model_34 dX6_model_37 (fun x hx => (htab x hx).elim) (Nat.le_of_ble_eq_true rfl) (Nat.le_of_ble_eq_true rfl) (Nat.le_refl _) (Nat.le_refl _) hlocks (xq_of hAe hP hK hD hS) (fun z hz => by rw [hAe]; exact hS.2.2 z hz) (Nat.le_refl _) (Nat.le_refl _)
set_option maxHeartbeats 4000000 in
set_option maxRecDepth 100000 in
theorem thr_X6_model_2 (l : Launch) (hst : l.stackTraces = false) (D : va_G) (k : Nat → ClassId) (aU : Nat → Nat) (xI xL xS xB xV xC : Nat) (sz : Nat) (Uformulas : Nat → Option Nat) (Udrawn : Nat → Int32) (Umodels : Int32) (v1 : Int32)  (c1 : ¬ (v1 < 0)) (c2 : ¬ (v1 ≤ Umodels)) : vx_Met l yX6_model wsX6_model rmTX6_model (va_Pc [.ref (aU 0), .int v1] (PreX D k (wU k aU xI xL xS xB xV xC Uformulas Udrawn Umodels) sz)) NQ (XQ D k (wU k aU xI xL xS xB xV xC Uformulas Udrawn Umodels) sz exI) 1 6 (va_A (wU k aU xI xL xS xB xV xC Uformulas Udrawn Umodels) sz) := by
  refine vx_ofW (cc := cX6_model) (maxL := 5) (ret := (some .int)) (by decide) rfl ?_
  intro p e s m args below meth c s₁ B hml htab hv
  obtain ⟨hav, ⟨hsz, hP, hK, hD0⟩, hXP⟩ := hv
  have hx := B.exec
  have hb := B.bytes
  have hts := atoms_spec (ws := wsX6_model) B.pre
  have hown : s.vm.findClass RX6 = some m.cls := findClass_of_methodNamed B.named
  have hlocks := B.notSynchronized
  subst hsz
  have hD := hD0.self (sz := s.heap.size)
  clear hD0
  obtain ⟨A, hAe⟩ : ∃ A, va_A (wU k aU xI xL xS xB xV xC Uformulas Udrawn Umodels) s.heap.size = A := ⟨_, rfl⟩
  rw [hAe] at hD hXP
  have hA : ∀ q : Nat, s.heap.size ≤ q → A q := fun q h => by rw [← hAe]; exact Or.inr h
  have hS : va_S A s.heap s.heap [] := va_S.rf
  have hl := lv_entry ([.ref (aU 0), .int v1]) (n := 5) (Nat.le_of_ble_eq_true rfl)
  rw [show entryFrame m args 5 = entryFrame m ([.ref (aU 0), .int v1] : List Value).toArray 5 from by rw [hav], lg_entry_eq]
  generalize (lg_sl ([.ref (aU 0), .int v1]) ++ List.replicate (5 - (lg_sl ([.ref (aU 0), .int v1])).length) Slot.unset).toArray = ls at hl ⊢
  replace hl : lv_has ls 5 [(0, .ref (aU 0)), (1, .int v1)] := hl
  have iX6 : ∀ w ∈ u_ws RX6 TX6 9, w ∈ wsX6_model := by decide +kernel
  show W p l e rmTX6_model s m args below meth c s.heap [] 0 0 _ (F0 m 0 ls [])
  suffices main : ∀ (H : Heap) (locs : List Loc) (ls : Array Slot), va_P D vwCl (wU k aU xI xL xS xB xV xC Uformulas Udrawn Umodels) H → va_D A (wU k aU xI xL xS xB xV xC Uformulas Udrawn Umodels) → va_S A s.heap H locs → lv_has ls 5 [(0, .ref (aU 0)), (1, .int v1)] → W p l e rmTX6_model s m args below meth c H locs 0 0 _ (F0 m 0 ls []) from main _ _ _ hP hD hS hl
  clear hP hD hS hl ls
  intro H locs ls hP hD hS hl
  refine lv_iload_n hx hb dX6_model_0 rfl (lv_at hl 1 rfl) ?_
  refine lv_if_lt (tgt := 12) hx hb dX6_model_1 (by decide) (fun q => absurd q c1) (fun _ => ?_)
  refine lv_iload_n hx hb dX6_model_4 rfl (lv_at hl 1 rfl) ?_
  refine lv_aload_n hx hb dX6_model_5 rfl (lv_at hl 0 rfl) ?_
  refine va_get (D := D) (ci := 6) (v := .int Umodels) (C := RX6) (T := TX6) (N := 9) hx hb hts iX6 hown hK hP 0 rfl rfl 3 (by decide) (hts (.fieldLink RX6 29 "UncertainBook" "models" "I") (by decide +kernel)) (fun _ h9 => h9) rfl dX6_model_6 ?_
  refine lv_icmp_le (tgt := 22) hx hb dX6_model_9 (by decide) (fun q => absurd q c2) (fun _ => ?_)
  obtain ⟨sa, hstr⟩ := hXP.2.2.1 (141, "no such model") (by decide +kernel)
  have hg : ∀ w ∈ (vx_atS RX6 143 exI ["java/lang/RuntimeException", "java/lang/Exception"]).filter goodWord, w ∈ wsX6_model := by decide +kernel
  have hat : ∀ w ∈ vx_atS RX6 143 exI ["java/lang/RuntimeException", "java/lang/Exception"], w.before args s = true := vx_hat (B := [.castable exI exI, .declares (Bundle.initS "java/lang/RuntimeException"), .declares (Bundle.initS "java/lang/Exception"), .declares (Bundle.initS "java/lang/Throwable")]) (fun w hw => hts w (hg w hw)) (by decide +kernel) (vx_c (va_Nw.use rfl (hXP.2.2.2.1 exI (by decide +kernel))) (vx_c (va_Nw.use rfl (hXP.2.2.2.2 _ (by decide +kernel))) (vx_c (va_Nw.use rfl (hXP.2.2.2.2 _ (by decide +kernel))) (vx_c (va_Nw.use rfl (hXP.2.2.2.2 _ (by decide +kernel))) vx_n))))
  exact vx_throwS (own := RX6) (cls := exI) (text := "no such model") (names := ["java/lang/RuntimeException", "java/lang/Exception"]) (ik := 139) (is := 141) (ic := 143) (sa := sa) (A := A) hx hb hst hown (by decide +kernel) (by decide +kernel) (hts (.classLink RX6 139 exI) (by decide +kernel)) (hts (.initialized exI) (by decide +kernel)) hstr hat (by decide +kernel) hXP.1 hXP.2.1 hS (hl.1.trans hml.symm) dX6_model_12 dX6_model_15 dX6_model_16 dX6_model_18 dX6_model_21 (fun x hx => (htab x hx).elim) (Nat.le_of_ble_eq_true rfl) (Nat.le_of_ble_eq_true rfl) (Nat.le_refl _) (Nat.le_refl _) hlocks (xq_of hAe hP hK hD hS) (fun z hz => by rw [hAe]; exact hS.2.2 z hz) (Nat.le_refl _) (Nat.le_refl _)
