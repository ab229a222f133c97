abbrev rmL_sensitivity : Room := { frames := 5, cells := 0, slots := 0, locals := 117 }
abbrev rmLT_sensitivity : Room := { frames := 8, cells := 1, slots := 6, locals := 163 }
set_option maxHeartbeats 4000000 in
set_option maxRecDepth 100000 in
theorem law_sensitivity_ok (l : Launch) (D : va_G) (k : Nat → ClassId) (wb : va_W) (wb' : (Nat → Nat) → va_W) (aU0 : Nat) (fs : List Value) (hb0 : wb[0]? = some (aU0, .inr (6, fs))) (qo : Nat) (f : Nat → Int64) (sz : Nat) (v1 : Int32) (v2 : Int32) (r : Int64) (hM : ∀ sz : Nat, Met l yX6_sensitivity wsX6_sensitivity rmX6_sensitivity (va_Pc [.ref aU0, .int v1, .int v2] (PreN D k wb sz)) (va_Ql (fun r9 (_ : Nat → Nat) => r9 = r) (fun u t => PostW D k (va_A wb sz) (wb' u) t) (va_A wb sz)) 0 0 (va_A wb sz)) : vx_Met l yL_sensitivity wsL_sensitivity rmL_sensitivity (va_Pc [.ref aU0, .int v1, .int v2, .ref qo] (PreN D k (wo k qo f ++ wb) sz)) (va_Qi (fun r9 (_ : Nat → Nat) => r9 = 0) (fun u t => PostW D k (va_A (wo k qo f ++ wb) sz) (wo k qo (vp_updL f 0 r) ++ wb' u) t) (va_A (wo k qo f ++ wb) sz)) NX 0 0 (va_A (wo k qo f ++ wb) sz) := by
  refine vx_ofWH (cc := cL_sensitivity) (maxL := 5) (ret := (some .int)) (hh := [(0, 9, 12, 13)]) (by decide) rfl ?_
  intro p e s m args below meth c s₁ B hml hv
  obtain ⟨hav, ⟨hsz, hP, hK, hD0⟩, hNW⟩ := hv
  have hx := B.exec
  have hb := B.bytes
  have hr := B.returns
  have hts := atoms_spec (ws := wsL_sensitivity) B.pre
  have hown : s.vm.findClass RL = some m.cls := findClass_of_methodNamed B.named
  have hlocks := B.notSynchronized
  subst hsz
  have hD := hD0.self (sz := s.heap.size)
  clear hD0
  obtain ⟨A, hAe⟩ : ∃ A, va_A (wo k qo f ++ wb) s.heap.size = A := ⟨_, rfl⟩
  rw [hAe] at hD
  have hA : ∀ q : Nat, s.heap.size ≤ q → A q := fun q h => by rw [← hAe]; exact Or.inr h
  have hS : va_S A s.heap s.heap [] := va_S.rf
  have hl := lv_entry ([.ref aU0, .int v1, .int v2, .ref qo]) (n := 5) (Nat.le_of_ble_eq_true rfl)
  rw [show entryFrame m args 5 = entryFrame m ([.ref aU0, .int v1, .int v2, .ref qo] : List Value).toArray 5 from by rw [hav], lg_entry_eq]
  generalize (lg_sl ([.ref aU0, .int v1, .int v2, .ref qo]) ++ List.replicate (5 - (lg_sl ([.ref aU0, .int v1, .int v2, .ref qo])).length) Slot.unset).toArray = ls at hl ⊢
  replace hl : lv_has ls 5 [(0, .ref aU0), (1, .int v1), (2, .int v2), (3, .ref qo)] := hl
  rw [hAe]
  show W p l e rmL_sensitivity s m args below meth c s.heap [] 0 0 _ (F0 m 0 ls [])
  refine lv_aload_n hx hb dL_sensitivity_0 rfl (lv_at hl 3 rfl) ?_
  refine lv_iconst (v := 0) hx hb dL_sensitivity_1 (by decide) ?_
  refine lv_aload_n hx hb dL_sensitivity_2 rfl (lv_at hl 0 rfl) ?_
  refine lv_iload_n hx hb dL_sensitivity_3 rfl (lv_at hl 1 rfl) ?_
  refine lv_iload_n hx hb dL_sensitivity_4 rfl (lv_at hl 2 rfl) ?_
  have hFc := vs_free (vd_r hD) hS hA
  refine xc_lG (va_runV (As := [.int v1, .int v2]) (rest := [.int 0, .ref qo]) ⟨hx, hb, hml, hown, hts⟩ (hM s.heap.size) (cwV 2 hts gL_sensitivity_X6_sensitivity rfl rfl rfl (by decide +kernel) ⟨Nat.le_of_ble_eq_true rfl, Nat.le_of_ble_eq_true rfl⟩) ⟨pn_blind, va_recv hK (vs_r hP) (ci := 6) (q0 := 0) rfl hb0, pn_start (vs_r hP) hK (vd_r hD) hNW⟩ rfl rfl hl.1 rfl (lv_room (Nat.le_of_ble_eq_true rfl)) dL_sensitivity_5 ⟨Nat.zero_le _, Nat.zero_le _⟩) hS hFc (fun u H1 locs hP1 hD1 hk1 hS => ?_)
  obtain ⟨hP, hD⟩ := vs_joinR hP hD hFc hk1 hP1 hD1
  clear hP1 hD1 hk1 hFc
  refine va_last hx hb hK hP hD hS 0 1 rfl rfl (vp_in_nI (n := 0) (N := 1) (by decide) (by decide)) dL_sensitivity_8 (fun H locs hP hD hS => ?_)
  replace hP : va_P D vwCl (wo k qo (vp_updL f 0 r) ++ wb' u) H := hP
  replace hD : va_D A (wo k qo (vp_updL f 0 r) ++ wb' u) := hD
  refine lv_goto (tgt := 16) hx hb dL_sensitivity_9 (by decide) ?_
  refine lv_iconst (v := 0) hx hb dL_sensitivity_16 (by decide) ?_
  exact vx_ret (W.iret hx hb hr (fun t ht hW => ⟨⟨_, u, rfl, rfl, by rw [ht]; exact hP, va_K.moved hW.alike hK, hD⟩, hS.F ht⟩) hS.2.2 dL_sensitivity_17)
set_option maxHeartbeats 4000000 in
set_option maxRecDepth 100000 in
theorem law_sensitivity_x1 (l : Launch) (D : va_G) (k : Nat → ClassId) (wb : va_W) (aU0 : Nat) (fs : List Value) (hb0 : wb[0]? = some (aU0, .inr (6, fs))) (qo : Nat) (sz : Nat) (v1 : Int32) (v2 : Int32) (hM : ∀ sz : Nat, vx_Met l yX6_sensitivity wsX6_sensitivity rmTX6_sensitivity (va_Pc [.ref aU0, .int v1, .int v2] (PreX D k wb sz)) NQ (XQ D k wb sz exI) 1 6 (va_A wb sz)) : vx_Met l yL_sensitivity wsL_sensitivity rmLT_sensitivity (va_Pc [.ref aU0, .int v1, .int v2, .ref qo] (PreY D k wb sz)) (va_Qi (fun r9 (_ : Unit) => r9 = 1) (fun _ t => PostW D k (va_A wb sz) wb t) (va_A wb sz)) NX 1 6 (va_A wb sz) := by
  refine vx_ofWH (cc := cL_sensitivity) (maxL := 5) (ret := (some .int)) (hh := [(0, 9, 12, 13)]) (by decide) rfl ?_
  intro p e s m args below meth c s₁ B hml hv
  obtain ⟨hav, ⟨⟨hsz, hP, hK, hD0⟩, hXP⟩, hXN⟩ := hv
  have hx := B.exec
  have hb := B.bytes
  have hr := B.returns
  have hts := atoms_spec (ws := wsL_sensitivity) B.pre
  have hown : s.vm.findClass RL = some m.cls := findClass_of_methodNamed B.named
  have hlocks := B.notSynchronized
  subst hsz
  have hD := hD0.self (sz := s.heap.size)
  clear hD0
  obtain ⟨A, hAe⟩ : ∃ A, va_A wb s.heap.size = A := ⟨_, rfl⟩
  rw [hAe] at hD hXP
  have hA : ∀ q : Nat, s.heap.size ≤ q → A q := fun q h => by rw [← hAe]; exact Or.inr h
  have hS : va_S A s.heap s.heap [] := va_S.rf
  have hl := lv_entry ([.ref aU0, .int v1, .int v2, .ref qo]) (n := 5) (Nat.le_of_ble_eq_true rfl)
  rw [show entryFrame m args 5 = entryFrame m ([.ref aU0, .int v1, .int v2, .ref qo] : List Value).toArray 5 from by rw [hav], lg_entry_eq]
  generalize (lg_sl ([.ref aU0, .int v1, .int v2, .ref qo]) ++ List.replicate (5 - (lg_sl ([.ref aU0, .int v1, .int v2, .ref qo])).length) Slot.unset).toArray = ls at hl ⊢
  replace hl : lv_has ls 5 [(0, .ref aU0), (1, .int v1), (2, .int v2), (3, .ref qo)] := hl
  rw [hAe]
  show W p l e rmLT_sensitivity s m args below meth c s.heap [] 0 0 _ (F0 m 0 ls [])
  have htab : c.exceptionTable.toList = [⟨0, 9, 12, 13⟩] := vx_table (x := yL_sensitivity) B (hts (.codeWith yL_sensitivity cL_sensitivity 5 (some .int) [(0, 9, 12, 13)]) List.mem_cons_self)
  refine lv_aload_n hx hb dL_sensitivity_0 rfl (lv_at hl 3 rfl) ?_
  refine lv_iconst (v := 0) hx hb dL_sensitivity_1 (by decide) ?_
  refine lv_aload_n hx hb dL_sensitivity_2 rfl (lv_at hl 0 rfl) ?_
  refine lv_iload_n hx hb dL_sensitivity_3 rfl (lv_at hl 1 rfl) ?_
  refine lv_iload_n hx hb dL_sensitivity_4 rfl (lv_at hl 2 rfl) ?_
  have hFc := vs_free hD hS hA
  refine xt_c (vx_runV (As := [.int v1, .int v2]) (rest := [.int 0, .ref qo]) ⟨hx, hb, hml, hown, hts⟩ (hM s.heap.size) (cwV 2 hts gL_sensitivity_X6_sensitivity rfl rfl rfl (by decide +kernel) ⟨Nat.le_of_ble_eq_true rfl, Nat.le_of_ble_eq_true rfl⟩) ⟨px_blind, va_recv hK hP (ci := 6) (q0 := 0) rfl hb0, px_start hP hK hD hXP hFc⟩ rfl rfl hl.1 rfl (lv_room (Nat.le_of_ble_eq_true rfl)) dL_sensitivity_5 ⟨Nat.le_refl _, Nat.le_refl _⟩) hS hFc (fun ce q9 H1 locs hP1 hD1 hk1 hS hc1 hc2 hc3 => ?_)
  refine vx_catch (name := exI) (E := exI) hown [] ⟨0, 9, 12, 13⟩ [] htab (fun z hz => nomatch hz) rfl (by decide) (hts (.classLink RL 13 exI) (by decide +kernel)) (va_Nw.use rfl (hXP.2.2.2.1 exI (by decide +kernel))) hc1 hc2 hc3 ?_
  show W p l e rmLT_sensitivity s m args below meth c H1 locs 1 6 _ (F0 m 12 ls [.ref q9])
  refine lv_astore (lv' := [(4, .ref q9), (0, .ref aU0), (1, .int v1), (2, .int v2), (3, .ref qo)]) hx hb dL_sensitivity_12 hl (by decide) rfl (fun ls hl => ?_)
  refine lv_iconst (v := 1) hx hb dL_sensitivity_14 (by decide) ?_
  have hD2 : va_D A wb := hD
  exact vx_ret (W.iret hx hb hr (fun t ht hW => ⟨⟨_, (), rfl, rfl, by rw [ht]; exact hP1, va_K.moved hW.alike hK, hD2⟩, hS.F ht⟩) (fun z hz => hS.2.2 z hz) dL_sensitivity_15)
abbrev rmL_sensitivityAnew : Room := { frames := 5, cells := 0, slots := 0, locals := 118 }
abbrev rmLT_sensitivityAnew : Room := { frames := 8, cells := 1, slots := 6, locals := 163 }
set_option maxHeartbeats 4000000 in
set_option maxRecDepth 100000 in
theorem law_sensitivityAnew_ok (l : Launch) (D : va_G) (k : Nat → ClassId) (wb : va_W) (wb' : (Nat → Nat) → va_W) (aU0 : Nat) (fs : List Value) (hb0 : wb[0]? = some (aU0, .inr (6, fs))) (qo : Nat) (f : Nat → Int64) (sz : Nat) (v1 : Int32) (v2 : Int32) (r : Int64) (hM : ∀ sz : Nat, Met l yX6_sensitivityAnew wsX6_sensitivityAnew rmX6_sensitivityAnew (va_Pc [.ref aU0, .int v1, .int v2] (PreN D k wb sz)) (va_Ql (fun r9 (_ : Nat → Nat) => r9 = r) (fun u t => PostW D k (va_A wb sz) (wb' u) t) (va_A wb sz)) 0 0 (va_A wb sz)) : vx_Met l yL_sensitivityAnew wsL_sensitivityAnew rmL_sensitivityAnew (va_Pc [.ref aU0, .int v1, .int v2, .ref qo] (PreN D k (wo k qo f ++ wb) sz)) (va_Qi (fun r9 (_ : Nat → Nat) => r9 = 0) (fun u t => PostW D k (va_A (wo k qo f ++ wb) sz) (wo k qo (vp_updL f 0 r) ++ wb' u) t) (va_A (wo k qo f ++ wb) sz)) NX 0 0 (va_A (wo k qo f ++ wb) sz) := by
  refine vx_ofWH (cc := cL_sensitivityAnew) (maxL := 5) (ret := (some .int)) (hh := [(0, 9, 12, 13)]) (by decide) rfl ?_
  intro p e s m args below meth c s₁ B hml hv
  obtain ⟨hav, ⟨hsz, hP, hK, hD0⟩, hNW⟩ := hv
  have hx := B.exec
  have hb := B.bytes
  have hr := B.returns
  have hts := atoms_spec (ws := wsL_sensitivityAnew) B.pre
  have hown : s.vm.findClass RL = some m.cls := findClass_of_methodNamed B.named
  have hlocks := B.notSynchronized
  subst hsz
  have hD := hD0.self (sz := s.heap.size)
  clear hD0
  obtain ⟨A, hAe⟩ : ∃ A, va_A (wo k qo f ++ wb) s.heap.size = A := ⟨_, rfl⟩
  rw [hAe] at hD
  have hA : ∀ q : Nat, s.heap.size ≤ q → A q := fun q h => by rw [← hAe]; exact Or.inr h
  have hS : va_S A s.heap s.heap [] := va_S.rf
  have hl := lv_entry ([.ref aU0, .int v1, .int v2, .ref qo]) (n := 5) (Nat.le_of_ble_eq_true rfl)
  rw [show entryFrame m args 5 = entryFrame m ([.ref aU0, .int v1, .int v2, .ref qo] : List Value).toArray 5 from by rw [hav], lg_entry_eq]
  generalize (lg_sl ([.ref aU0, .int v1, .int v2, .ref qo]) ++ List.replicate (5 - (lg_sl ([.ref aU0, .int v1, .int v2, .ref qo])).length) Slot.unset).toArray = ls at hl ⊢
  replace hl : lv_has ls 5 [(0, .ref aU0), (1, .int v1), (2, .int v2), (3, .ref qo)] := hl
  rw [hAe]
  show W p l e rmL_sensitivityAnew s m args below meth c s.heap [] 0 0 _ (F0 m 0 ls [])
  refine lv_aload_n hx hb dL_sensitivityAnew_0 rfl (lv_at hl 3 rfl) ?_
  refine lv_iconst (v := 0) hx hb dL_sensitivityAnew_1 (by decide) ?_
  refine lv_aload_n hx hb dL_sensitivityAnew_2 rfl (lv_at hl 0 rfl) ?_
  refine lv_iload_n hx hb dL_sensitivityAnew_3 rfl (lv_at hl 1 rfl) ?_
  refine lv_iload_n hx hb dL_sensitivityAnew_4 rfl (lv_at hl 2 rfl) ?_
  have hFc := vs_free (vd_r hD) hS hA
  refine xc_lG (va_runV (As := [.int v1, .int v2]) (rest := [.int 0, .ref qo]) ⟨hx, hb, hml, hown, hts⟩ (hM s.heap.size) (cwV 2 hts gL_sensitivityAnew_X6_sensitivityAnew rfl rfl rfl (by decide +kernel) ⟨Nat.le_of_ble_eq_true rfl, Nat.le_of_ble_eq_true rfl⟩) ⟨pn_blind, va_recv hK (vs_r hP) (ci := 6) (q0 := 0) rfl hb0, pn_start (vs_r hP) hK (vd_r hD) hNW⟩ rfl rfl hl.1 rfl (lv_room (Nat.le_of_ble_eq_true rfl)) dL_sensitivityAnew_5 ⟨Nat.zero_le _, Nat.zero_le _⟩) hS hFc (fun u H1 locs hP1 hD1 hk1 hS => ?_)
  obtain ⟨hP, hD⟩ := vs_joinR hP hD hFc hk1 hP1 hD1
  clear hP1 hD1 hk1 hFc
  refine va_last hx hb hK hP hD hS 0 1 rfl rfl (vp_in_nI (n := 0) (N := 1) (by decide) (by decide)) dL_sensitivityAnew_8 (fun H locs hP hD hS => ?_)
  replace hP : va_P D vwCl (wo k qo (vp_updL f 0 r) ++ wb' u) H := hP
  replace hD : va_D A (wo k qo (vp_updL f 0 r) ++ wb' u) := hD
  refine lv_goto (tgt := 16) hx hb dL_sensitivityAnew_9 (by decide) ?_
  refine lv_iconst (v := 0) hx hb dL_sensitivityAnew_16 (by decide) ?_
  exact vx_ret (W.iret hx hb hr (fun t ht hW => ⟨⟨_, u, rfl, rfl, by rw [ht]; exact hP, va_K.moved hW.alike hK, hD⟩, hS.F ht⟩) hS.2.2 dL_sensitivityAnew_17)
set_option maxHeartbeats 4000000 in
set_option maxRecDepth 100000 in
theorem law_sensitivityAnew_x1 (l : Launch) (D : va_G) (k : Nat → ClassId) (wb : va_W) (aU0 : Nat) (fs : List Value) (hb0 : wb[0]? = some (aU0, .inr (6, fs))) (qo : Nat) (sz : Nat) (v1 : Int32) (v2 : Int32) (hM : ∀ sz : Nat, vx_Met l yX6_sensitivityAnew wsX6_sensitivityAnew rmTX6_sensitivityAnew (va_Pc [.ref aU0, .int v1, .int v2] (PreX D k wb sz)) NQ (XQ D k wb sz exI) 1 6 (va_A wb sz)) : vx_Met l yL_sensitivityAnew wsL_sensitivityAnew rmLT_sensitivityAnew (va_Pc [.ref aU0, .int v1, .int v2, .ref qo] (PreY D k wb sz)) (va_Qi (fun r9 (_ : Unit) => r9 = 1) (fun _ t => PostW D k (va_A wb sz) wb t) (va_A wb sz)) NX 1 6 (va_A wb sz) := by
  refine vx_ofWH (cc := cL_sensitivityAnew) (maxL := 5) (ret := (some .int)) (hh := [(0, 9, 12, 13)]) (by decide) rfl ?_
  intro p e s m args below meth c s₁ B hml hv
  obtain ⟨hav, ⟨⟨hsz, hP, hK, hD0⟩, hXP⟩, hXN⟩ := hv
  have hx := B.exec
  have hb := B.bytes
  have hr := B.returns
  have hts := atoms_spec (ws := wsL_sensitivityAnew) B.pre
  have hown : s.vm.findClass RL = some m.cls := findClass_of_methodNamed B.named
  have hlocks := B.notSynchronized
  subst hsz
  have hD := hD0.self (sz := s.heap.size)
  clear hD0
  obtain ⟨A, hAe⟩ : ∃ A, va_A wb s.heap.size = A := ⟨_, rfl⟩
  rw [hAe] at hD hXP
  have hA : ∀ q : Nat, s.heap.size ≤ q → A q := fun q h => by rw [← hAe]; exact Or.inr h
  have hS : va_S A s.heap s.heap [] := va_S.rf
  have hl := lv_entry ([.ref aU0, .int v1, .int v2, .ref qo]) (n := 5) (Nat.le_of_ble_eq_true rfl)
  rw [show entryFrame m args 5 = entryFrame m ([.ref aU0, .int v1, .int v2, .ref qo] : List Value).toArray 5 from by rw [hav], lg_entry_eq]
  generalize (lg_sl ([.ref aU0, .int v1, .int v2, .ref qo]) ++ List.replicate (5 - (lg_sl ([.ref aU0, .int v1, .int v2, .ref qo])).length) Slot.unset).toArray = ls at hl ⊢
  replace hl : lv_has ls 5 [(0, .ref aU0), (1, .int v1), (2, .int v2), (3, .ref qo)] := hl
  rw [hAe]
  show W p l e rmLT_sensitivityAnew s m args below meth c s.heap [] 0 0 _ (F0 m 0 ls [])
  have htab : c.exceptionTable.toList = [⟨0, 9, 12, 13⟩] := vx_table (x := yL_sensitivityAnew) B (hts (.codeWith yL_sensitivityAnew cL_sensitivityAnew 5 (some .int) [(0, 9, 12, 13)]) List.mem_cons_self)
  refine lv_aload_n hx hb dL_sensitivityAnew_0 rfl (lv_at hl 3 rfl) ?_
  refine lv_iconst (v := 0) hx hb dL_sensitivityAnew_1 (by decide) ?_
  refine lv_aload_n hx hb dL_sensitivityAnew_2 rfl (lv_at hl 0 rfl) ?_
  refine lv_iload_n hx hb dL_sensitivityAnew_3 rfl (lv_at hl 1 rfl) ?_
  refine lv_iload_n hx hb dL_sensitivityAnew_4 rfl (lv_at hl 2 rfl) ?_
  have hFc := vs_free hD hS hA
  refine xt_c (vx_runV (As := [.int v1, .int v2]) (rest := [.int 0, .ref qo]) ⟨hx, hb, hml, hown, hts⟩ (hM s.heap.size) (cwV 2 hts gL_sensitivityAnew_X6_sensitivityAnew rfl rfl rfl (by decide +kernel) ⟨Nat.le_of_ble_eq_true rfl, Nat.le_of_ble_eq_true rfl⟩) ⟨px_blind, va_recv hK hP (ci := 6) (q0 := 0) rfl hb0, px_start hP hK hD hXP hFc⟩ rfl rfl hl.1 rfl (lv_room (Nat.le_of_ble_eq_true rfl)) dL_sensitivityAnew_5 ⟨Nat.le_refl _, Nat.le_refl _⟩) hS hFc (fun ce q9 H1 locs hP1 hD1 hk1 hS hc1 hc2 hc3 => ?_)
  refine vx_catch (name := exI) (E := exI) hown [] ⟨0, 9, 12, 13⟩ [] htab (fun z hz => nomatch hz) rfl (by decide) (hts (.classLink RL 13 exI) (by decide +kernel)) (va_Nw.use rfl (hXP.2.2.2.1 exI (by decide +kernel))) hc1 hc2 hc3 ?_
  show W p l e rmLT_sensitivityAnew s m args below meth c H1 locs 1 6 _ (F0 m 12 ls [.ref q9])
  refine lv_astore (lv' := [(4, .ref q9), (0, .ref aU0), (1, .int v1), (2, .int v2), (3, .ref qo)]) hx hb dL_sensitivityAnew_12 hl (by decide) rfl (fun ls hl => ?_)
  refine lv_iconst (v := 1) hx hb dL_sensitivityAnew_14 (by decide) ?_
  have hD2 : va_D A wb := hD
  exact vx_ret (W.iret hx hb hr (fun t ht hW => ⟨⟨_, (), rfl, rfl, by rw [ht]; exact hP1, va_K.moved hW.alike hK, hD2⟩, hS.F ht⟩) (fun z hz => hS.2.2 z hz) dL_sensitivityAnew_15)
abbrev rmL_budget : Room := { frames := 6, cells := 0, slots := 0, locals := 142 }
abbrev rmLT_budget : Room := { frames := 8, cells := 1, slots := 6, locals := 163 }
set_option maxHeartbeats 4000000 in
set_option maxRecDepth 100000 in
theorem law_budget_ok (l : Launch) (D : va_G) (k : Nat → ClassId) (wb : va_W) (wb' : (Nat → Nat) → va_W) (aU0 : Nat) (fs : List Value) (hb0 : wb[0]? = some (aU0, .inr (6, fs))) (qo : Nat) (f : Nat → Int64) (sz : Nat) (v1 : Int32) (v2 : Int32) (r : Int64) (hM : ∀ sz : Nat, Met l yX6_budget wsX6_budget rmX6_budget (va_Pc [.ref aU0, .int v1, .int v2] (PreN D k wb sz)) (va_Ql (fun r9 (_ : Nat → Nat) => r9 = r) (fun u t => PostW D k (va_A wb sz) (wb' u) t) (va_A wb sz)) 0 0 (va_A wb sz)) : vx_Met l yL_budget wsL_budget rmL_budget (va_Pc [.ref aU0, .int v1, .int v2, .ref qo] (PreN D k (wo k qo f ++ wb) sz)) (va_Qi (fun r9 (_ : Nat → Nat) => r9 = 0) (fun u t => PostW D k (va_A (wo k qo f ++ wb) sz) (wo k qo (vp_updL f 0 r) ++ wb' u) t) (va_A (wo k qo f ++ wb) sz)) NX 0 0 (va_A (wo k qo f ++ wb) sz) := by
  refine vx_ofWH (cc := cL_budget) (maxL := 5) (ret := (some .int)) (hh := [(0, 9, 12, 13), (0, 9, 16, 15)]) (by decide) rfl ?_
  intro p e s m args below meth c s₁ B hml hv
  obtain ⟨hav, ⟨hsz, hP, hK, hD0⟩, hNW⟩ := hv
  have hx := B.exec
  have hb := B.bytes
  have hr := B.returns
  have hts := atoms_spec (ws := wsL_budget) B.pre
  have hown : s.vm.findClass RL = some m.cls := findClass_of_methodNamed B.named
  have hlocks := B.notSynchronized
  subst hsz
  have hD := hD0.self (sz := s.heap.size)
  clear hD0
  obtain ⟨A, hAe⟩ : ∃ A, va_A (wo k qo f ++ wb) s.heap.size = A := ⟨_, rfl⟩
  rw [hAe] at hD
  have hA : ∀ q : Nat, s.heap.size ≤ q → A q := fun q h => by rw [← hAe]; exact Or.inr h
  have hS : va_S A s.heap s.heap [] := va_S.rf
  have hl := lv_entry ([.ref aU0, .int v1, .int v2, .ref qo]) (n := 5) (Nat.le_of_ble_eq_true rfl)
  rw [show entryFrame m args 5 = entryFrame m ([.ref aU0, .int v1, .int v2, .ref qo] : List Value).toArray 5 from by rw [hav], lg_entry_eq]
  generalize (lg_sl ([.ref aU0, .int v1, .int v2, .ref qo]) ++ List.replicate (5 - (lg_sl ([.ref aU0, .int v1, .int v2, .ref qo])).length) Slot.unset).toArray = ls at hl ⊢
  replace hl : lv_has ls 5 [(0, .ref aU0), (1, .int v1), (2, .int v2), (3, .ref qo)] := hl
  rw [hAe]
  show W p l e rmL_budget s m args below meth c s.heap [] 0 0 _ (F0 m 0 ls [])
  refine lv_aload_n hx hb dL_budget_0 rfl (lv_at hl 3 rfl) ?_
  refine lv_iconst (v := 0) hx hb dL_budget_1 (by decide) ?_
  refine lv_aload_n hx hb dL_budget_2 rfl (lv_at hl 0 rfl) ?_
  refine lv_iload_n hx hb dL_budget_3 rfl (lv_at hl 1 rfl) ?_
  refine lv_iload_n hx hb dL_budget_4 rfl (lv_at hl 2 rfl) ?_
  have hFc := vs_free (vd_r hD) hS hA
  refine xc_lG (va_runV (As := [.int v1, .int v2]) (rest := [.int 0, .ref qo]) ⟨hx, hb, hml, hown, hts⟩ (hM s.heap.size) (cwV 2 hts gL_budget_X6_budget rfl rfl rfl (by decide +kernel) ⟨Nat.le_of_ble_eq_true rfl, Nat.le_of_ble_eq_true rfl⟩) ⟨pn_blind, va_recv hK (vs_r hP) (ci := 6) (q0 := 0) rfl hb0, pn_start (vs_r hP) hK (vd_r hD) hNW⟩ rfl rfl hl.1 rfl (lv_room (Nat.le_of_ble_eq_true rfl)) dL_budget_5 ⟨Nat.zero_le _, Nat.zero_le _⟩) hS hFc (fun u H1 locs hP1 hD1 hk1 hS => ?_)
  obtain ⟨hP, hD⟩ := vs_joinR hP hD hFc hk1 hP1 hD1
  clear hP1 hD1 hk1 hFc
  refine va_last hx hb hK hP hD hS 0 1 rfl rfl (vp_in_nI (n := 0) (N := 1) (by decide) (by decide)) dL_budget_8 (fun H locs hP hD hS => ?_)
  replace hP : va_P D vwCl (wo k qo (vp_updL f 0 r) ++ wb' u) H := hP
  replace hD : va_D A (wo k qo (vp_updL f 0 r) ++ wb' u) := hD
  refine lv_goto (tgt := 20) hx hb dL_budget_9 (by decide) ?_
  refine lv_iconst (v := 0) hx hb dL_budget_20 (by decide) ?_
  exact vx_ret (W.iret hx hb hr (fun t ht hW => ⟨⟨_, u, rfl, rfl, by rw [ht]; exact hP, va_K.moved hW.alike hK, hD⟩, hS.F ht⟩) hS.2.2 dL_budget_21)
set_option maxHeartbeats 4000000 in
set_option maxRecDepth 100000 in
theorem law_budget_x1 (l : Launch) (D : va_G) (k : Nat → ClassId) (wb : va_W) (aU0 : Nat) (fs : List Value) (hb0 : wb[0]? = some (aU0, .inr (6, fs))) (qo : Nat) (sz : Nat) (v1 : Int32) (v2 : Int32) (hM : ∀ sz : Nat, vx_Met l yX6_budget wsX6_budget rmTX6_budget (va_Pc [.ref aU0, .int v1, .int v2] (PreX D k wb sz)) NQ (XQ D k wb sz exI) 1 6 (va_A wb sz)) : vx_Met l yL_budget wsL_budget rmLT_budget (va_Pc [.ref aU0, .int v1, .int v2, .ref qo] (PreY D k wb sz)) (va_Qi (fun r9 (_ : Unit) => r9 = 1) (fun _ t => PostW D k (va_A wb sz) wb t) (va_A wb sz)) NX 1 6 (va_A wb sz) := by
  refine vx_ofWH (cc := cL_budget) (maxL := 5) (ret := (some .int)) (hh := [(0, 9, 12, 13), (0, 9, 16, 15)]) (by decide) rfl ?_
  intro p e s m args below meth c s₁ B hml hv
  obtain ⟨hav, ⟨⟨hsz, hP, hK, hD0⟩, hXP⟩, hXN⟩ := hv
  have hx := B.exec
  have hb := B.bytes
  have hr := B.returns
  have hts := atoms_spec (ws := wsL_budget) B.pre
  have hown : s.vm.findClass RL = some m.cls := findClass_of_methodNamed B.named
  have hlocks := B.notSynchronized
  subst hsz
  have hD := hD0.self (sz := s.heap.size)
  clear hD0
  obtain ⟨A, hAe⟩ : ∃ A, va_A wb s.heap.size = A := ⟨_, rfl⟩
  rw [hAe] at hD hXP
  have hA : ∀ q : Nat, s.heap.size ≤ q → A q := fun q h => by rw [← hAe]; exact Or.inr h
  have hS : va_S A s.heap s.heap [] := va_S.rf
  have hl := lv_entry ([.ref aU0, .int v1, .int v2, .ref qo]) (n := 5) (Nat.le_of_ble_eq_true rfl)
  rw [show entryFrame m args 5 = entryFrame m ([.ref aU0, .int v1, .int v2, .ref qo] : List Value).toArray 5 from by rw [hav], lg_entry_eq]
  generalize (lg_sl ([.ref aU0, .int v1, .int v2, .ref qo]) ++ List.replicate (5 - (lg_sl ([.ref aU0, .int v1, .int v2, .ref qo])).length) Slot.unset).toArray = ls at hl ⊢
  replace hl : lv_has ls 5 [(0, .ref aU0), (1, .int v1), (2, .int v2), (3, .ref qo)] := hl
  rw [hAe]
  show W p l e rmLT_budget s m args below meth c s.heap [] 0 0 _ (F0 m 0 ls [])
  have htab : c.exceptionTable.toList = [⟨0, 9, 12, 13⟩, ⟨0, 9, 16, 15⟩] := vx_table (x := yL_budget) B (hts (.codeWith yL_budget cL_budget 5 (some .int) [(0, 9, 12, 13), (0, 9, 16, 15)]) List.mem_cons_self)
  refine lv_aload_n hx hb dL_budget_0 rfl (lv_at hl 3 rfl) ?_
  refine lv_iconst (v := 0) hx hb dL_budget_1 (by decide) ?_
  refine lv_aload_n hx hb dL_budget_2 rfl (lv_at hl 0 rfl) ?_
  refine lv_iload_n hx hb dL_budget_3 rfl (lv_at hl 1 rfl) ?_
  refine lv_iload_n hx hb dL_budget_4 rfl (lv_at hl 2 rfl) ?_
  have hFc := vs_free hD hS hA
  refine xt_c (vx_runV (As := [.int v1, .int v2]) (rest := [.int 0, .ref qo]) ⟨hx, hb, hml, hown, hts⟩ (hM s.heap.size) (cwV 2 hts gL_budget_X6_budget rfl rfl rfl (by decide +kernel) ⟨Nat.le_of_ble_eq_true rfl, Nat.le_of_ble_eq_true rfl⟩) ⟨px_blind, va_recv hK hP (ci := 6) (q0 := 0) rfl hb0, px_start hP hK hD hXP hFc⟩ rfl rfl hl.1 rfl (lv_room (Nat.le_of_ble_eq_true rfl)) dL_budget_5 ⟨Nat.le_refl _, Nat.le_refl _⟩) hS hFc (fun ce q9 H1 locs hP1 hD1 hk1 hS hc1 hc2 hc3 => ?_)
  refine vx_catch (name := exI) (E := exI) hown [] ⟨0, 9, 12, 13⟩ [⟨0, 9, 16, 15⟩] htab (fun z hz => nomatch hz) rfl (by decide) (hts (.classLink RL 13 exI) (by decide +kernel)) (va_Nw.use rfl (hXP.2.2.2.1 exI (by decide +kernel))) hc1 hc2 hc3 ?_
  show W p l e rmLT_budget s m args below meth c H1 locs 1 6 _ (F0 m 12 ls [.ref q9])
  refine lv_astore (lv' := [(4, .ref q9), (0, .ref aU0), (1, .int v1), (2, .int v2), (3, .ref qo)]) hx hb dL_budget_12 hl (by decide) rfl (fun ls hl => ?_)
  refine lv_iconst (v := 1) hx hb dL_budget_14 (by decide) ?_
  have hD2 : va_D A wb := hD
  exact vx_ret (W.iret hx hb hr (fun t ht hW => ⟨⟨_, (), rfl, rfl, by rw [ht]; exact hP1, va_K.moved hW.alike hK, hD2⟩, hS.F ht⟩) (fun z hz => hS.2.2 z hz) dL_budget_15)
set_option maxHeartbeats 4000000 in
set_option maxRecDepth 100000 in
theorem law_budget_x2 (l : Launch) (D : va_G) (k : Nat → ClassId) (wb : va_W) (aU0 : Nat) (fs : List Value) (hb0 : wb[0]? = some (aU0, .inr (6, fs))) (qo : Nat) (sz : Nat) (v1 : Int32) (v2 : Int32) (hM : ∀ sz : Nat, vx_Met l yX6_budget wsX6_budget rmTX6_budget (va_Pc [.ref aU0, .int v1, .int v2] (PreX D k wb sz)) NQ (XQ D k wb sz exA) 1 6 (va_A wb sz)) : vx_Met l yL_budget wsL_budget rmLT_budget (va_Pc [.ref aU0, .int v1, .int v2, .ref qo] (PreY D k wb sz)) (va_Qi (fun r9 (_ : Unit) => r9 = 2) (fun _ t => PostW D k (va_A wb sz) wb t) (va_A wb sz)) NX 1 6 (va_A wb sz) := by
  refine vx_ofWH (cc := cL_budget) (maxL := 5) (ret := (some .int)) (hh := [(0, 9, 12, 13), (0, 9, 16, 15)]) (by decide) rfl ?_
  intro p e s m args below meth c s₁ B hml hv
  obtain ⟨hav, ⟨⟨hsz, hP, hK, hD0⟩, hXP⟩, hXN⟩ := hv
  have hx := B.exec
  have hb := B.bytes
  have hr := B.returns
  have hts := atoms_spec (ws := wsL_budget) B.pre
  have hown : s.vm.findClass RL = some m.cls := findClass_of_methodNamed B.named
  have hlocks := B.notSynchronized
  subst hsz
  have hD := hD0.self (sz := s.heap.size)
  clear hD0
  obtain ⟨A, hAe⟩ : ∃ A, va_A wb s.heap.size = A := ⟨_, rfl⟩
  rw [hAe] at hD hXP
  have hA : ∀ q : Nat, s.heap.size ≤ q → A q := fun q h => by rw [← hAe]; exact Or.inr h
  have hS : va_S A s.heap s.heap [] := va_S.rf
  have hl := lv_entry ([.ref aU0, .int v1, .int v2, .ref qo]) (n := 5) (Nat.le_of_ble_eq_true rfl)
  rw [show entryFrame m args 5 = entryFrame m ([.ref aU0, .int v1, .int v2, .ref qo] : List Value).toArray 5 from by rw [hav], lg_entry_eq]
  generalize (lg_sl ([.ref aU0, .int v1, .int v2, .ref qo]) ++ List.replicate (5 - (lg_sl ([.ref aU0, .int v1, .int v2, .ref qo])).length) Slot.unset).toArray = ls at hl ⊢
  replace hl : lv_has ls 5 [(0, .ref aU0), (1, .int v1), (2, .int v2), (3, .ref qo)] := hl
  rw [hAe]
  show W p l e rmLT_budget s m args below meth c s.heap [] 0 0 _ (F0 m 0 ls [])
  have htab : c.exceptionTable.toList = [⟨0, 9, 12, 13⟩, ⟨0, 9, 16, 15⟩] := vx_table (x := yL_budget) B (hts (.codeWith yL_budget cL_budget 5 (some .int) [(0, 9, 12, 13), (0, 9, 16, 15)]) List.mem_cons_self)
  refine lv_aload_n hx hb dL_budget_0 rfl (lv_at hl 3 rfl) ?_
  refine lv_iconst (v := 0) hx hb dL_budget_1 (by decide) ?_
  refine lv_aload_n hx hb dL_budget_2 rfl (lv_at hl 0 rfl) ?_
  refine lv_iload_n hx hb dL_budget_3 rfl (lv_at hl 1 rfl) ?_
  refine lv_iload_n hx hb dL_budget_4 rfl (lv_at hl 2 rfl) ?_
  have hFc := vs_free hD hS hA
  refine xt_c (vx_runV (As := [.int v1, .int v2]) (rest := [.int 0, .ref qo]) ⟨hx, hb, hml, hown, hts⟩ (hM s.heap.size) (cwV 2 hts gL_budget_X6_budget rfl rfl rfl (by decide +kernel) ⟨Nat.le_of_ble_eq_true rfl, Nat.le_of_ble_eq_true rfl⟩) ⟨px_blind, va_recv hK hP (ci := 6) (q0 := 0) rfl hb0, px_start hP hK hD hXP hFc⟩ rfl rfl hl.1 rfl (lv_room (Nat.le_of_ble_eq_true rfl)) dL_budget_5 ⟨Nat.le_refl _, Nat.le_refl _⟩) hS hFc (fun ce q9 H1 locs hP1 hD1 hk1 hS hc1 hc2 hc3 => ?_)
  refine vx_catch (name := exA) (E := exA) hown [⟨0, 9, 12, 13⟩] ⟨0, 9, 16, 15⟩ [] htab (List.forall_mem_cons.mpr ⟨Or.inr ⟨by decide, exI, hts (.classLink RL 13 exI) (by decide +kernel), hXN.1⟩, fun _ h => absurd h List.not_mem_nil⟩) rfl (by decide) (hts (.classLink RL 15 exA) (by decide +kernel)) (va_Nw.use rfl (hXP.2.2.2.1 exA (by decide +kernel))) hc1 hc2 hc3 ?_
  show W p l e rmLT_budget s m args below meth c H1 locs 1 6 _ (F0 m 16 ls [.ref q9])
  refine lv_astore (lv' := [(4, .ref q9), (0, .ref aU0), (1, .int v1), (2, .int v2), (3, .ref qo)]) hx hb dL_budget_16 hl (by decide) rfl (fun ls hl => ?_)
  refine lv_iconst (v := 2) hx hb dL_budget_18 (by decide) ?_
  have hD2 : va_D A wb := hD
  exact vx_ret (W.iret hx hb hr (fun t ht hW => ⟨⟨_, (), rfl, rfl, by rw [ht]; exact hP1, va_K.moved hW.alike hK, hD2⟩, hS.F ht⟩) (fun z hz => hS.2.2 z hz) dL_budget_19)
abbrev rmL_contribution : Room := { frames := 6, cells := 0, slots := 0, locals := 143 }
abbrev rmLT_contribution : Room := { frames := 8, cells := 1, slots := 6, locals := 164 }
set_option maxHeartbeats 4000000 in
set_option maxRecDepth 100000 in
theorem law_contribution_ok (l : Launch) (D : va_G) (k : Nat → ClassId) (wb : va_W) (wb' : (Nat → Nat) → va_W) (aU0 : Nat) (fs : List Value) (hb0 : wb[0]? = some (aU0, .inr (6, fs))) (qo : Nat) (f : Nat → Int64) (sz : Nat) (v1 : Int32) (v2 : Int32) (v3 : Int32) (r : Int64) (hM : ∀ sz : Nat, Met l yX6_contribution wsX6_contribution rmX6_contribution (va_Pc [.ref aU0, .int v1, .int v2, .int v3] (PreN D k wb sz)) (va_Ql (fun r9 (_ : Nat → Nat) => r9 = r) (fun u t => PostW D k (va_A wb sz) (wb' u) t) (va_A wb sz)) 0 0 (va_A wb sz)) : vx_Met l yL_contribution wsL_contribution rmL_contribution (va_Pc [.ref aU0, .int v1, .int v2, .int v3, .ref qo] (PreN D k (wo k qo f ++ wb) sz)) (va_Qi (fun r9 (_ : Nat → Nat) => r9 = 0) (fun u t => PostW D k (va_A (wo k qo f ++ wb) sz) (wo k qo (vp_updL f 0 r) ++ wb' u) t) (va_A (wo k qo f ++ wb) sz)) NX 0 0 (va_A (wo k qo f ++ wb) sz) := by
  refine vx_ofWH (cc := cL_contribution) (maxL := 6) (ret := (some .int)) (hh := [(0, 11, 14, 13)]) (by decide) rfl ?_
  intro p e s m args below meth c s₁ B hml hv
  obtain ⟨hav, ⟨hsz, hP, hK, hD0⟩, hNW⟩ := hv
  have hx := B.exec
  have hb := B.bytes
  have hr := B.returns
  have hts := atoms_spec (ws := wsL_contribution) B.pre
  have hown : s.vm.findClass RL = some m.cls := findClass_of_methodNamed B.named
  have hlocks := B.notSynchronized
  subst hsz
  have hD := hD0.self (sz := s.heap.size)
  clear hD0
  obtain ⟨A, hAe⟩ : ∃ A, va_A (wo k qo f ++ wb) s.heap.size = A := ⟨_, rfl⟩
  rw [hAe] at hD
  have hA : ∀ q : Nat, s.heap.size ≤ q → A q := fun q h => by rw [← hAe]; exact Or.inr h
  have hS : va_S A s.heap s.heap [] := va_S.rf
  have hl := lv_entry ([.ref aU0, .int v1, .int v2, .int v3, .ref qo]) (n := 6) (Nat.le_of_ble_eq_true rfl)
  rw [show entryFrame m args 6 = entryFrame m ([.ref aU0, .int v1, .int v2, .int v3, .ref qo] : List Value).toArray 6 from by rw [hav], lg_entry_eq]
  generalize (lg_sl ([.ref aU0, .int v1, .int v2, .int v3, .ref qo]) ++ List.replicate (6 - (lg_sl ([.ref aU0, .int v1, .int v2, .int v3, .ref qo])).length) Slot.unset).toArray = ls at hl ⊢
  replace hl : lv_has ls 6 [(0, .ref aU0), (1, .int v1), (2, .int v2), (3, .int v3), (4, .ref qo)] := hl
  rw [hAe]
  show W p l e rmL_contribution s m args below meth c s.heap [] 0 0 _ (F0 m 0 ls [])
  refine lv_aload hx hb dL_contribution_0 (lv_at hl 4 rfl) ?_
  refine lv_iconst (v := 0) hx hb dL_contribution_2 (by decide) ?_
  refine lv_aload_n hx hb dL_contribution_3 rfl (lv_at hl 0 rfl) ?_
  refine lv_iload_n hx hb dL_contribution_4 rfl (lv_at hl 1 rfl) ?_
  refine lv_iload_n hx hb dL_contribution_5 rfl (lv_at hl 2 rfl) ?_
  refine lv_iload_n hx hb dL_contribution_6 rfl (lv_at hl 3 rfl) ?_
  have hFc := vs_free (vd_r hD) hS hA
  refine xc_lG (va_runV (As := [.int v1, .int v2, .int v3]) (rest := [.int 0, .ref qo]) ⟨hx, hb, hml, hown, hts⟩ (hM s.heap.size) (cwV 3 hts gL_contribution_X6_contribution rfl rfl rfl (by decide +kernel) ⟨Nat.le_of_ble_eq_true rfl, Nat.le_of_ble_eq_true rfl⟩) ⟨pn_blind, va_recv hK (vs_r hP) (ci := 6) (q0 := 0) rfl hb0, pn_start (vs_r hP) hK (vd_r hD) hNW⟩ rfl rfl hl.1 rfl (lv_room (Nat.le_of_ble_eq_true rfl)) dL_contribution_7 ⟨Nat.zero_le _, Nat.zero_le _⟩) hS hFc (fun u H1 locs hP1 hD1 hk1 hS => ?_)
  obtain ⟨hP, hD⟩ := vs_joinR hP hD hFc hk1 hP1 hD1
  clear hP1 hD1 hk1 hFc
  refine va_last hx hb hK hP hD hS 0 1 rfl rfl (vp_in_nI (n := 0) (N := 1) (by decide) (by decide)) dL_contribution_10 (fun H locs hP hD hS => ?_)
  replace hP : va_P D vwCl (wo k qo (vp_updL f 0 r) ++ wb' u) H := hP
  replace hD : va_D A (wo k qo (vp_updL f 0 r) ++ wb' u) := hD
  refine lv_goto (tgt := 18) hx hb dL_contribution_11 (by decide) ?_
  refine lv_iconst (v := 0) hx hb dL_contribution_18 (by decide) ?_
  exact vx_ret (W.iret hx hb hr (fun t ht hW => ⟨⟨_, u, rfl, rfl, by rw [ht]; exact hP, va_K.moved hW.alike hK, hD⟩, hS.F ht⟩) hS.2.2 dL_contribution_19)
set_option maxHeartbeats 4000000 in
set_option maxRecDepth 100000 in
theorem law_contribution_x1 (l : Launch) (D : va_G) (k : Nat → ClassId) (wb : va_W) (aU0 : Nat) (fs : List Value) (hb0 : wb[0]? = some (aU0, .inr (6, fs))) (qo : Nat) (sz : Nat) (v1 : Int32) (v2 : Int32) (v3 : Int32) (hM : ∀ sz : Nat, vx_Met l yX6_contribution wsX6_contribution rmTX6_contribution (va_Pc [.ref aU0, .int v1, .int v2, .int v3] (PreX D k wb sz)) NQ (XQ D k wb sz exI) 1 6 (va_A wb sz)) : vx_Met l yL_contribution wsL_contribution rmLT_contribution (va_Pc [.ref aU0, .int v1, .int v2, .int v3, .ref qo] (PreY D k wb sz)) (va_Qi (fun r9 (_ : Unit) => r9 = 1) (fun _ t => PostW D k (va_A wb sz) wb t) (va_A wb sz)) NX 1 6 (va_A wb sz) := by
  refine vx_ofWH (cc := cL_contribution) (maxL := 6) (ret := (some .int)) (hh := [(0, 11, 14, 13)]) (by decide) rfl ?_
  intro p e s m args below meth c s₁ B hml hv
  obtain ⟨hav, ⟨⟨hsz, hP, hK, hD0⟩, hXP⟩, hXN⟩ := hv
  have hx := B.exec
  have hb := B.bytes
  have hr := B.returns
  have hts := atoms_spec (ws := wsL_contribution) B.pre
  have hown : s.vm.findClass RL = some m.cls := findClass_of_methodNamed B.named
  have hlocks := B.notSynchronized
  subst hsz
  have hD := hD0.self (sz := s.heap.size)
  clear hD0
  obtain ⟨A, hAe⟩ : ∃ A, va_A wb s.heap.size = A := ⟨_, rfl⟩
  rw [hAe] at hD hXP
  have hA : ∀ q : Nat, s.heap.size ≤ q → A q := fun q h => by rw [← hAe]; exact Or.inr h
  have hS : va_S A s.heap s.heap [] := va_S.rf
  have hl := lv_entry ([.ref aU0, .int v1, .int v2, .int v3, .ref qo]) (n := 6) (Nat.le_of_ble_eq_true rfl)
  rw [show entryFrame m args 6 = entryFrame m ([.ref aU0, .int v1, .int v2, .int v3, .ref qo] : List Value).toArray 6 from by rw [hav], lg_entry_eq]
  generalize (lg_sl ([.ref aU0, .int v1, .int v2, .int v3, .ref qo]) ++ List.replicate (6 - (lg_sl ([.ref aU0, .int v1, .int v2, .int v3, .ref qo])).length) Slot.unset).toArray = ls at hl ⊢
  replace hl : lv_has ls 6 [(0, .ref aU0), (1, .int v1), (2, .int v2), (3, .int v3), (4, .ref qo)] := hl
  rw [hAe]
  show W p l e rmLT_contribution s m args below meth c s.heap [] 0 0 _ (F0 m 0 ls [])
  have htab : c.exceptionTable.toList = [⟨0, 11, 14, 13⟩] := vx_table (x := yL_contribution) B (hts (.codeWith yL_contribution cL_contribution 6 (some .int) [(0, 11, 14, 13)]) List.mem_cons_self)
  refine lv_aload hx hb dL_contribution_0 (lv_at hl 4 rfl) ?_
  refine lv_iconst (v := 0) hx hb dL_contribution_2 (by decide) ?_
  refine lv_aload_n hx hb dL_contribution_3 rfl (lv_at hl 0 rfl) ?_
  refine lv_iload_n hx hb dL_contribution_4 rfl (lv_at hl 1 rfl) ?_
  refine lv_iload_n hx hb dL_contribution_5 rfl (lv_at hl 2 rfl) ?_
  refine lv_iload_n hx hb dL_contribution_6 rfl (lv_at hl 3 rfl) ?_
  have hFc := vs_free hD hS hA
  refine xt_c (vx_runV (As := [.int v1, .int v2, .int v3]) (rest := [.int 0, .ref qo]) ⟨hx, hb, hml, hown, hts⟩ (hM s.heap.size) (cwV 3 hts gL_contribution_X6_contribution rfl rfl rfl (by decide +kernel) ⟨Nat.le_of_ble_eq_true rfl, Nat.le_of_ble_eq_true rfl⟩) ⟨px_blind, va_recv hK hP (ci := 6) (q0 := 0) rfl hb0, px_start hP hK hD hXP hFc⟩ rfl rfl hl.1 rfl (lv_room (Nat.le_of_ble_eq_true rfl)) dL_contribution_7 ⟨Nat.le_refl _, Nat.le_refl _⟩) hS hFc (fun ce q9 H1 locs hP1 hD1 hk1 hS hc1 hc2 hc3 => ?_)
  refine vx_catch (name := exI) (E := exI) hown [] ⟨0, 11, 14, 13⟩ [] htab (fun z hz => nomatch hz) rfl (by decide) (hts (.classLink RL 13 exI) (by decide +kernel)) (va_Nw.use rfl (hXP.2.2.2.1 exI (by decide +kernel))) hc1 hc2 hc3 ?_
  show W p l e rmLT_contribution s m args below meth c H1 locs 1 6 _ (F0 m 14 ls [.ref q9])
  refine lv_astore (lv' := [(5, .ref q9), (0, .ref aU0), (1, .int v1), (2, .int v2), (3, .int v3), (4, .ref qo)]) hx hb dL_contribution_14 hl (by decide) rfl (fun ls hl => ?_)
  refine lv_iconst (v := 1) hx hb dL_contribution_16 (by decide) ?_
  have hD2 : va_D A wb := hD
  exact vx_ret (W.iret hx hb hr (fun t ht hW => ⟨⟨_, (), rfl, rfl, by rw [ht]; exact hP1, va_K.moved hW.alike hK, hD2⟩, hS.F ht⟩) (fun z hz => hS.2.2 z hz) dL_contribution_17)
abbrev rmL_ranked : Room := { frames := 6, cells := 0, slots := 0, locals := 142 }
abbrev rmLT_ranked : Room := { frames := 8, cells := 1, slots := 6, locals := 163 }
set_option maxHeartbeats 4000000 in
set_option maxRecDepth 100000 in
theorem law_ranked_ok (l : Launch) (D : va_G) (k : Nat → ClassId) (wb : va_W) (wb' : (Nat → Nat) → va_W) (aU0 : Nat) (fs : List Value) (hb0 : wb[0]? = some (aU0, .inr (6, fs))) (qo : Nat) (f : Nat → Int64) (sz : Nat) (v1 : Int32) (v2 : Int32) (r : Int32) (hM : ∀ sz : Nat, Met l yX6_ranked wsX6_ranked rmX6_ranked (va_Pc [.ref aU0, .int v1, .int v2] (PreN D k wb sz)) (va_Qi (fun r9 (_ : Nat → Nat) => r9 = r) (fun u t => PostW D k (va_A wb sz) (wb' u) t) (va_A wb sz)) 0 0 (va_A wb sz)) : vx_Met l yL_ranked wsL_ranked rmL_ranked (va_Pc [.ref aU0, .int v1, .int v2, .ref qo] (PreN D k (wo k qo f ++ wb) sz)) (va_Qi (fun r9 (_ : Nat → Nat) => r9 = 0) (fun u t => PostW D k (va_A (wo k qo f ++ wb) sz) (wo k qo (vp_updL f 0 (r.toInt64)) ++ wb' u) t) (va_A (wo k qo f ++ wb) sz)) NX 0 0 (va_A (wo k qo f ++ wb) sz) := by
  refine vx_ofWH (cc := cL_ranked) (maxL := 5) (ret := (some .int)) (hh := [(0, 10, 13, 13)]) (by decide) rfl ?_
  intro p e s m args below meth c s₁ B hml hv
  obtain ⟨hav, ⟨hsz, hP, hK, hD0⟩, hNW⟩ := hv
  have hx := B.exec
  have hb := B.bytes
  have hr := B.returns
  have hts := atoms_spec (ws := wsL_ranked) B.pre
  have hown : s.vm.findClass RL = some m.cls := findClass_of_methodNamed B.named
  have hlocks := B.notSynchronized
  subst hsz
  have hD := hD0.self (sz := s.heap.size)
  clear hD0
  obtain ⟨A, hAe⟩ : ∃ A, va_A (wo k qo f ++ wb) s.heap.size = A := ⟨_, rfl⟩
  rw [hAe] at hD
  have hA : ∀ q : Nat, s.heap.size ≤ q → A q := fun q h => by rw [← hAe]; exact Or.inr h
  have hS : va_S A s.heap s.heap [] := va_S.rf
  have hl := lv_entry ([.ref aU0, .int v1, .int v2, .ref qo]) (n := 5) (Nat.le_of_ble_eq_true rfl)
  rw [show entryFrame m args 5 = entryFrame m ([.ref aU0, .int v1, .int v2, .ref qo] : List Value).toArray 5 from by rw [hav], lg_entry_eq]
  generalize (lg_sl ([.ref aU0, .int v1, .int v2, .ref qo]) ++ List.replicate (5 - (lg_sl ([.ref aU0, .int v1, .int v2, .ref qo])).length) Slot.unset).toArray = ls at hl ⊢
  replace hl : lv_has ls 5 [(0, .ref aU0), (1, .int v1), (2, .int v2), (3, .ref qo)] := hl
  rw [hAe]
  show W p l e rmL_ranked s m args below meth c s.heap [] 0 0 _ (F0 m 0 ls [])
  refine lv_aload_n hx hb dL_ranked_0 rfl (lv_at hl 3 rfl) ?_
  refine lv_iconst (v := 0) hx hb dL_ranked_1 (by decide) ?_
  refine lv_aload_n hx hb dL_ranked_2 rfl (lv_at hl 0 rfl) ?_
  refine lv_iload_n hx hb dL_ranked_3 rfl (lv_at hl 1 rfl) ?_
  refine lv_iload_n hx hb dL_ranked_4 rfl (lv_at hl 2 rfl) ?_
  have hFc := vs_free (vd_r hD) hS hA
  refine xc_iG (va_runV (As := [.int v1, .int v2]) (rest := [.int 0, .ref qo]) ⟨hx, hb, hml, hown, hts⟩ (hM s.heap.size) (cwV 2 hts gL_ranked_X6_ranked rfl rfl rfl (by decide +kernel) ⟨Nat.le_of_ble_eq_true rfl, Nat.le_of_ble_eq_true rfl⟩) ⟨pn_blind, va_recv hK (vs_r hP) (ci := 6) (q0 := 0) rfl hb0, pn_start (vs_r hP) hK (vd_r hD) hNW⟩ rfl rfl hl.1 rfl (lv_room (Nat.le_of_ble_eq_true rfl)) dL_ranked_5 ⟨Nat.zero_le _, Nat.zero_le _⟩) hS hFc (fun u H1 locs hP1 hD1 hk1 hS => ?_)
  obtain ⟨hP, hD⟩ := vs_joinR hP hD hFc hk1 hP1 hD1
  clear hP1 hD1 hk1 hFc
  refine lv_i2l hx hb dL_ranked_8 rfl ?_
  refine va_last hx hb hK hP hD hS 0 1 rfl rfl (vp_in_nI (n := 0) (N := 1) (by decide) (by decide)) dL_ranked_9 (fun H locs hP hD hS => ?_)
  replace hP : va_P D vwCl (wo k qo (vp_updL f 0 (r.toInt64)) ++ wb' u) H := hP
  replace hD : va_D A (wo k qo (vp_updL f 0 (r.toInt64)) ++ wb' u) := hD
  refine lv_goto (tgt := 17) hx hb dL_ranked_10 (by decide) ?_
  refine lv_iconst (v := 0) hx hb dL_ranked_17 (by decide) ?_
  exact vx_ret (W.iret hx hb hr (fun t ht hW => ⟨⟨_, u, rfl, rfl, by rw [ht]; exact hP, va_K.moved hW.alike hK, hD⟩, hS.F ht⟩) hS.2.2 dL_ranked_18)
set_option maxHeartbeats 4000000 in
set_option maxRecDepth 100000 in
theorem law_ranked_x1 (l : Launch) (D : va_G) (k : Nat → ClassId) (wb : va_W) (aU0 : Nat) (fs : List Value) (hb0 : wb[0]? = some (aU0, .inr (6, fs))) (qo : Nat) (sz : Nat) (v1 : Int32) (v2 : Int32) (hM : ∀ sz : Nat, vx_Met l yX6_ranked wsX6_ranked rmTX6_ranked (va_Pc [.ref aU0, .int v1, .int v2] (PreX D k wb sz)) NQ (XQ D k wb sz exI) 1 6 (va_A wb sz)) : vx_Met l yL_ranked wsL_ranked rmLT_ranked (va_Pc [.ref aU0, .int v1, .int v2, .ref qo] (PreY D k wb sz)) (va_Qi (fun r9 (_ : Unit) => r9 = 1) (fun _ t => PostW D k (va_A wb sz) wb t) (va_A wb sz)) NX 1 6 (va_A wb sz) := by
  refine vx_ofWH (cc := cL_ranked) (maxL := 5) (ret := (some .int)) (hh := [(0, 10, 13, 13)]) (by decide) rfl ?_
  intro p e s m args below meth c s₁ B hml hv
  obtain ⟨hav, ⟨⟨hsz, hP, hK, hD0⟩, hXP⟩, hXN⟩ := hv
  have hx := B.exec
  have hb := B.bytes
  have hr := B.returns
  have hts := atoms_spec (ws := wsL_ranked) B.pre
  have hown : s.vm.findClass RL = some m.cls := findClass_of_methodNamed B.named
  have hlocks := B.notSynchronized
  subst hsz
  have hD := hD0.self (sz := s.heap.size)
  clear hD0
  obtain ⟨A, hAe⟩ : ∃ A, va_A wb s.heap.size = A := ⟨_, rfl⟩
  rw [hAe] at hD hXP
  have hA : ∀ q : Nat, s.heap.size ≤ q → A q := fun q h => by rw [← hAe]; exact Or.inr h
  have hS : va_S A s.heap s.heap [] := va_S.rf
  have hl := lv_entry ([.ref aU0, .int v1, .int v2, .ref qo]) (n := 5) (Nat.le_of_ble_eq_true rfl)
  rw [show entryFrame m args 5 = entryFrame m ([.ref aU0, .int v1, .int v2, .ref qo] : List Value).toArray 5 from by rw [hav], lg_entry_eq]
  generalize (lg_sl ([.ref aU0, .int v1, .int v2, .ref qo]) ++ List.replicate (5 - (lg_sl ([.ref aU0, .int v1, .int v2, .ref qo])).length) Slot.unset).toArray = ls at hl ⊢
  replace hl : lv_has ls 5 [(0, .ref aU0), (1, .int v1), (2, .int v2), (3, .ref qo)] := hl
  rw [hAe]
  show W p l e rmLT_ranked s m args below meth c s.heap [] 0 0 _ (F0 m 0 ls [])
  have htab : c.exceptionTable.toList = [⟨0, 10, 13, 13⟩] := vx_table (x := yL_ranked) B (hts (.codeWith yL_ranked cL_ranked 5 (some .int) [(0, 10, 13, 13)]) List.mem_cons_self)
  refine lv_aload_n hx hb dL_ranked_0 rfl (lv_at hl 3 rfl) ?_
  refine lv_iconst (v := 0) hx hb dL_ranked_1 (by decide) ?_
  refine lv_aload_n hx hb dL_ranked_2 rfl (lv_at hl 0 rfl) ?_
  refine lv_iload_n hx hb dL_ranked_3 rfl (lv_at hl 1 rfl) ?_
  refine lv_iload_n hx hb dL_ranked_4 rfl (lv_at hl 2 rfl) ?_
  have hFc := vs_free hD hS hA
  refine xt_c (vx_runV (As := [.int v1, .int v2]) (rest := [.int 0, .ref qo]) ⟨hx, hb, hml, hown, hts⟩ (hM s.heap.size) (cwV 2 hts gL_ranked_X6_ranked rfl rfl rfl (by decide +kernel) ⟨Nat.le_of_ble_eq_true rfl, Nat.le_of_ble_eq_true rfl⟩) ⟨px_blind, va_recv hK hP (ci := 6) (q0 := 0) rfl hb0, px_start hP hK hD hXP hFc⟩ rfl rfl hl.1 rfl (lv_room (Nat.le_of_ble_eq_true rfl)) dL_ranked_5 ⟨Nat.le_refl _, Nat.le_refl _⟩) hS hFc (fun ce q9 H1 locs hP1 hD1 hk1 hS hc1 hc2 hc3 => ?_)
  refine vx_catch (name := exI) (E := exI) hown [] ⟨0, 10, 13, 13⟩ [] htab (fun z hz => nomatch hz) rfl (by decide) (hts (.classLink RL 13 exI) (by decide +kernel)) (va_Nw.use rfl (hXP.2.2.2.1 exI (by decide +kernel))) hc1 hc2 hc3 ?_
  show W p l e rmLT_ranked s m args below meth c H1 locs 1 6 _ (F0 m 13 ls [.ref q9])
  refine lv_astore (lv' := [(4, .ref q9), (0, .ref aU0), (1, .int v1), (2, .int v2), (3, .ref qo)]) hx hb dL_ranked_13 hl (by decide) rfl (fun ls hl => ?_)
  refine lv_iconst (v := 1) hx hb dL_ranked_15 (by decide) ?_
  have hD2 : va_D A wb := hD
  exact vx_ret (W.iret hx hb hr (fun t ht hW => ⟨⟨_, (), rfl, rfl, by rw [ht]; exact hP1, va_K.moved hW.alike hK, hD2⟩, hS.F ht⟩) (fun z hz => hS.2.2 z hz) dL_ranked_16)
abbrev rmL_table : Room := { frames := 3, cells := 0, slots := 0, locals := 67 }
abbrev rmLT_table : Room := { frames := 9, cells := 1, slots := 6, locals := 422 }
set_option maxHeartbeats 4000000 in
set_option maxRecDepth 100000 in
theorem law_table_ok (l : Launch) (D : va_G) (k : Nat → ClassId) (wb : va_W) (wb' : (Nat → Nat) → va_W) (aU0 : Nat) (fs : List Value) (hb0 : wb[0]? = some (aU0, .inr (6, fs))) (qo : Nat) (f : Nat → Int64) (sz : Nat) (v1 : Int32) (v2 : Int32) (r : Int32) (hM : ∀ sz : Nat, Met l yX6_table wsX6_table rmX6_table (va_Pc [.ref aU0, .int v1, .int v2] (PreN D k wb sz)) (va_Qi (fun r9 (_ : Nat → Nat) => r9 = r) (fun u t => PostW D k (va_A wb sz) (wb' u) t) (va_A wb sz)) 0 0 (va_A wb sz)) : vx_Met l yL_table wsL_table rmL_table (va_Pc [.ref aU0, .int v1, .int v2, .ref qo] (PreN D k (wo k qo f ++ wb) sz)) (va_Qi (fun r9 (_ : Nat → Nat) => r9 = 0) (fun u t => PostW D k (va_A (wo k qo f ++ wb) sz) (wo k qo (vp_updL f 0 (r.toInt64)) ++ wb' u) t) (va_A (wo k qo f ++ wb) sz)) NX 0 0 (va_A (wo k qo f ++ wb) sz) := by
  refine vx_ofWH (cc := cL_table) (maxL := 5) (ret := (some .int)) (hh := [(0, 10, 13, 15), (0, 10, 17, 21)]) (by decide) rfl ?_
  intro p e s m args below meth c s₁ B hml hv
  obtain ⟨hav, ⟨hsz, hP, hK, hD0⟩, hNW⟩ := hv
  have hx := B.exec
  have hb := B.bytes
  have hr := B.returns
  have hts := atoms_spec (ws := wsL_table) B.pre
  have hown : s.vm.findClass RL = some m.cls := findClass_of_methodNamed B.named
  have hlocks := B.notSynchronized
  subst hsz
  have hD := hD0.self (sz := s.heap.size)
  clear hD0
  obtain ⟨A, hAe⟩ : ∃ A, va_A (wo k qo f ++ wb) s.heap.size = A := ⟨_, rfl⟩
  rw [hAe] at hD
  have hA : ∀ q : Nat, s.heap.size ≤ q → A q := fun q h => by rw [← hAe]; exact Or.inr h
  have hS : va_S A s.heap s.heap [] := va_S.rf
  have hl := lv_entry ([.ref aU0, .int v1, .int v2, .ref qo]) (n := 5) (Nat.le_of_ble_eq_true rfl)
  rw [show entryFrame m args 5 = entryFrame m ([.ref aU0, .int v1, .int v2, .ref qo] : List Value).toArray 5 from by rw [hav], lg_entry_eq]
  generalize (lg_sl ([.ref aU0, .int v1, .int v2, .ref qo]) ++ List.replicate (5 - (lg_sl ([.ref aU0, .int v1, .int v2, .ref qo])).length) Slot.unset).toArray = ls at hl ⊢
  replace hl : lv_has ls 5 [(0, .ref aU0), (1, .int v1), (2, .int v2), (3, .ref qo)] := hl
  rw [hAe]
  show W p l e rmL_table s m args below meth c s.heap [] 0 0 _ (F0 m 0 ls [])
  refine lv_aload_n hx hb dL_table_0 rfl (lv_at hl 3 rfl) ?_
  refine lv_iconst (v := 0) hx hb dL_table_1 (by decide) ?_
  refine lv_aload_n hx hb dL_table_2 rfl (lv_at hl 0 rfl) ?_
  refine lv_iload_n hx hb dL_table_3 rfl (lv_at hl 1 rfl) ?_
  refine lv_iload_n hx hb dL_table_4 rfl (lv_at hl 2 rfl) ?_
  have hFc := vs_free (vd_r hD) hS hA
  refine xc_iG (va_runV (As := [.int v1, .int v2]) (rest := [.int 0, .ref qo]) ⟨hx, hb, hml, hown, hts⟩ (hM s.heap.size) (cwV 2 hts gL_table_X6_table rfl rfl rfl (by decide +kernel) ⟨Nat.le_of_ble_eq_true rfl, Nat.le_of_ble_eq_true rfl⟩) ⟨pn_blind, va_recv hK (vs_r hP) (ci := 6) (q0 := 0) rfl hb0, pn_start (vs_r hP) hK (vd_r hD) hNW⟩ rfl rfl hl.1 rfl (lv_room (Nat.le_of_ble_eq_true rfl)) dL_table_5 ⟨Nat.zero_le _, Nat.zero_le _⟩) hS hFc (fun u H1 locs hP1 hD1 hk1 hS => ?_)
  obtain ⟨hP, hD⟩ := vs_joinR hP hD hFc hk1 hP1 hD1
  clear hP1 hD1 hk1 hFc
  refine lv_i2l hx hb dL_table_8 rfl ?_
  refine va_last hx hb hK hP hD hS 0 1 rfl rfl (vp_in_nI (n := 0) (N := 1) (by decide) (by decide)) dL_table_9 (fun H locs hP hD hS => ?_)
  replace hP : va_P D vwCl (wo k qo (vp_updL f 0 (r.toInt64)) ++ wb' u) H := hP
  replace hD : va_D A (wo k qo (vp_updL f 0 (r.toInt64)) ++ wb' u) := hD
  refine lv_goto (tgt := 21) hx hb dL_table_10 (by decide) ?_
  refine lv_iconst (v := 0) hx hb dL_table_21 (by decide) ?_
  exact vx_ret (W.iret hx hb hr (fun t ht hW => ⟨⟨_, u, rfl, rfl, by rw [ht]; exact hP, va_K.moved hW.alike hK, hD⟩, hS.F ht⟩) hS.2.2 dL_table_22)
set_option maxHeartbeats 4000000 in
set_option maxRecDepth 100000 in
theorem law_table_x1 (l : Launch) (D : va_G) (k : Nat → ClassId) (wb : va_W) (aU0 : Nat) (fs : List Value) (hb0 : wb[0]? = some (aU0, .inr (6, fs))) (qo : Nat) (sz : Nat) (v1 : Int32) (v2 : Int32) (hM : ∀ sz : Nat, vx_Met l yX6_table wsX6_table rmTX6_table (va_Pc [.ref aU0, .int v1, .int v2] (PreX D k wb sz)) NQ (XQ D k wb sz exA) 1 6 (va_A wb sz)) : vx_Met l yL_table wsL_table rmLT_table (va_Pc [.ref aU0, .int v1, .int v2, .ref qo] (PreY D k wb sz)) (va_Qi (fun r9 (_ : Unit) => r9 = 1) (fun _ t => PostW D k (va_A wb sz) wb t) (va_A wb sz)) NX 1 6 (va_A wb sz) := by
  refine vx_ofWH (cc := cL_table) (maxL := 5) (ret := (some .int)) (hh := [(0, 10, 13, 15), (0, 10, 17, 21)]) (by decide) rfl ?_
  intro p e s m args below meth c s₁ B hml hv
  obtain ⟨hav, ⟨⟨hsz, hP, hK, hD0⟩, hXP⟩, hXN⟩ := hv
  have hx := B.exec
  have hb := B.bytes
  have hr := B.returns
  have hts := atoms_spec (ws := wsL_table) B.pre
  have hown : s.vm.findClass RL = some m.cls := findClass_of_methodNamed B.named
  have hlocks := B.notSynchronized
  subst hsz
  have hD := hD0.self (sz := s.heap.size)
  clear hD0
  obtain ⟨A, hAe⟩ : ∃ A, va_A wb s.heap.size = A := ⟨_, rfl⟩
  rw [hAe] at hD hXP
  have hA : ∀ q : Nat, s.heap.size ≤ q → A q := fun q h => by rw [← hAe]; exact Or.inr h
  have hS : va_S A s.heap s.heap [] := va_S.rf
  have hl := lv_entry ([.ref aU0, .int v1, .int v2, .ref qo]) (n := 5) (Nat.le_of_ble_eq_true rfl)
  rw [show entryFrame m args 5 = entryFrame m ([.ref aU0, .int v1, .int v2, .ref qo] : List Value).toArray 5 from by rw [hav], lg_entry_eq]
  generalize (lg_sl ([.ref aU0, .int v1, .int v2, .ref qo]) ++ List.replicate (5 - (lg_sl ([.ref aU0, .int v1, .int v2, .ref qo])).length) Slot.unset).toArray = ls at hl ⊢
  replace hl : lv_has ls 5 [(0, .ref aU0), (1, .int v1), (2, .int v2), (3, .ref qo)] := hl
  rw [hAe]
  show W p l e rmLT_table s m args below meth c s.heap [] 0 0 _ (F0 m 0 ls [])
  have htab : c.exceptionTable.toList = [⟨0, 10, 13, 15⟩, ⟨0, 10, 17, 21⟩] := vx_table (x := yL_table) B (hts (.codeWith yL_table cL_table 5 (some .int) [(0, 10, 13, 15), (0, 10, 17, 21)]) List.mem_cons_self)
  refine lv_aload_n hx hb dL_table_0 rfl (lv_at hl 3 rfl) ?_
  refine lv_iconst (v := 0) hx hb dL_table_1 (by decide) ?_
  refine lv_aload_n hx hb dL_table_2 rfl (lv_at hl 0 rfl) ?_
  refine lv_iload_n hx hb dL_table_3 rfl (lv_at hl 1 rfl) ?_
  refine lv_iload_n hx hb dL_table_4 rfl (lv_at hl 2 rfl) ?_
  have hFc := vs_free hD hS hA
  refine xt_c (vx_runV (As := [.int v1, .int v2]) (rest := [.int 0, .ref qo]) ⟨hx, hb, hml, hown, hts⟩ (hM s.heap.size) (cwV 2 hts gL_table_X6_table rfl rfl rfl (by decide +kernel) ⟨Nat.le_of_ble_eq_true rfl, Nat.le_of_ble_eq_true rfl⟩) ⟨px_blind, va_recv hK hP (ci := 6) (q0 := 0) rfl hb0, px_start hP hK hD hXP hFc⟩ rfl rfl hl.1 rfl (lv_room (Nat.le_of_ble_eq_true rfl)) dL_table_5 ⟨Nat.le_refl _, Nat.le_refl _⟩) hS hFc (fun ce q9 H1 locs hP1 hD1 hk1 hS hc1 hc2 hc3 => ?_)
  refine vx_catch (name := exA) (E := exA) hown [] ⟨0, 10, 13, 15⟩ [⟨0, 10, 17, 21⟩] htab (fun z hz => nomatch hz) rfl (by decide) (hts (.classLink RL 15 exA) (by decide +kernel)) (va_Nw.use rfl (hXP.2.2.2.1 exA (by decide +kernel))) hc1 hc2 hc3 ?_
  show W p l e rmLT_table s m args below meth c H1 locs 1 6 _ (F0 m 13 ls [.ref q9])
  refine lv_astore (lv' := [(4, .ref q9), (0, .ref aU0), (1, .int v1), (2, .int v2), (3, .ref qo)]) hx hb dL_table_13 hl (by decide) rfl (fun ls hl => ?_)
  refine lv_iconst (v := 1) hx hb dL_table_15 (by decide) ?_
  have hD2 : va_D A wb := hD
  exact vx_ret (W.iret hx hb hr (fun t ht hW => ⟨⟨_, (), rfl, rfl, by rw [ht]; exact hP1, va_K.moved hW.alike hK, hD2⟩, hS.F ht⟩) (fun z hz => hS.2.2 z hz) dL_table_16)
set_option maxHeartbeats 4000000 in
set_option maxRecDepth 100000 in
theorem law_table_x2 (l : Launch) (D : va_G) (k : Nat → ClassId) (wb : va_W) (aU0 : Nat) (fs : List Value) (hb0 : wb[0]? = some (aU0, .inr (6, fs))) (qo : Nat) (sz : Nat) (v1 : Int32) (v2 : Int32) (hM : ∀ sz : Nat, vx_Met l yX6_table wsX6_table rmTX6_table (va_Pc [.ref aU0, .int v1, .int v2] (PreX D k wb sz)) NQ (XQ D k wb sz exS) 1 6 (va_A wb sz)) : vx_Met l yL_table wsL_table rmLT_table (va_Pc [.ref aU0, .int v1, .int v2, .ref qo] (PreY D k wb sz)) (va_Qi (fun r9 (_ : Unit) => r9 = 2) (fun _ t => PostW D k (va_A wb sz) wb t) (va_A wb sz)) NX 1 6 (va_A wb sz) := by
  refine vx_ofWH (cc := cL_table) (maxL := 5) (ret := (some .int)) (hh := [(0, 10, 13, 15), (0, 10, 17, 21)]) (by decide) rfl ?_
  intro p e s m args below meth c s₁ B hml hv
  obtain ⟨hav, ⟨⟨hsz, hP, hK, hD0⟩, hXP⟩, hXN⟩ := hv
  have hx := B.exec
  have hb := B.bytes
  have hr := B.returns
  have hts := atoms_spec (ws := wsL_table) B.pre
  have hown : s.vm.findClass RL = some m.cls := findClass_of_methodNamed B.named
  have hlocks := B.notSynchronized
  subst hsz
  have hD := hD0.self (sz := s.heap.size)
  clear hD0
  obtain ⟨A, hAe⟩ : ∃ A, va_A wb s.heap.size = A := ⟨_, rfl⟩
  rw [hAe] at hD hXP
  have hA : ∀ q : Nat, s.heap.size ≤ q → A q := fun q h => by rw [← hAe]; exact Or.inr h
  have hS : va_S A s.heap s.heap [] := va_S.rf
  have hl := lv_entry ([.ref aU0, .int v1, .int v2, .ref qo]) (n := 5) (Nat.le_of_ble_eq_true rfl)
  rw [show entryFrame m args 5 = entryFrame m ([.ref aU0, .int v1, .int v2, .ref qo] : List Value).toArray 5 from by rw [hav], lg_entry_eq]
  generalize (lg_sl ([.ref aU0, .int v1, .int v2, .ref qo]) ++ List.replicate (5 - (lg_sl ([.ref aU0, .int v1, .int v2, .ref qo])).length) Slot.unset).toArray = ls at hl ⊢
  replace hl : lv_has ls 5 [(0, .ref aU0), (1, .int v1), (2, .int v2), (3, .ref qo)] := hl
  rw [hAe]
  show W p l e rmLT_table s m args below meth c s.heap [] 0 0 _ (F0 m 0 ls [])
  have htab : c.exceptionTable.toList = [⟨0, 10, 13, 15⟩, ⟨0, 10, 17, 21⟩] := vx_table (x := yL_table) B (hts (.codeWith yL_table cL_table 5 (some .int) [(0, 10, 13, 15), (0, 10, 17, 21)]) List.mem_cons_self)
  refine lv_aload_n hx hb dL_table_0 rfl (lv_at hl 3 rfl) ?_
  refine lv_iconst (v := 0) hx hb dL_table_1 (by decide) ?_
  refine lv_aload_n hx hb dL_table_2 rfl (lv_at hl 0 rfl) ?_
  refine lv_iload_n hx hb dL_table_3 rfl (lv_at hl 1 rfl) ?_
  refine lv_iload_n hx hb dL_table_4 rfl (lv_at hl 2 rfl) ?_
  have hFc := vs_free hD hS hA
  refine xt_c (vx_runV (As := [.int v1, .int v2]) (rest := [.int 0, .ref qo]) ⟨hx, hb, hml, hown, hts⟩ (hM s.heap.size) (cwV 2 hts gL_table_X6_table rfl rfl rfl (by decide +kernel) ⟨Nat.le_of_ble_eq_true rfl, Nat.le_of_ble_eq_true rfl⟩) ⟨px_blind, va_recv hK hP (ci := 6) (q0 := 0) rfl hb0, px_start hP hK hD hXP hFc⟩ rfl rfl hl.1 rfl (lv_room (Nat.le_of_ble_eq_true rfl)) dL_table_5 ⟨Nat.le_refl _, Nat.le_refl _⟩) hS hFc (fun ce q9 H1 locs hP1 hD1 hk1 hS hc1 hc2 hc3 => ?_)
  refine vx_catch (name := exS) (E := exS) hown [⟨0, 10, 13, 15⟩] ⟨0, 10, 17, 21⟩ [] htab (List.forall_mem_cons.mpr ⟨Or.inr ⟨by decide, exA, hts (.classLink RL 15 exA) (by decide +kernel), hXN.2.2⟩, fun _ h => absurd h List.not_mem_nil⟩) rfl (by decide) (hts (.classLink RL 21 exS) (by decide +kernel)) (va_Nw.use rfl (hXP.2.2.2.1 exS (by decide +kernel))) hc1 hc2 hc3 ?_
  show W p l e rmLT_table s m args below meth c H1 locs 1 6 _ (F0 m 17 ls [.ref q9])
  refine lv_astore (lv' := [(4, .ref q9), (0, .ref aU0), (1, .int v1), (2, .int v2), (3, .ref qo)]) hx hb dL_table_17 hl (by decide) rfl (fun ls hl => ?_)
  refine lv_iconst (v := 2) hx hb dL_table_19 (by decide) ?_
  have hD2 : va_D A wb := hD
  exact vx_ret (W.iret hx hb hr (fun t ht hW => ⟨⟨_, (), rfl, rfl, by rw [ht]; exact hP1, va_K.moved hW.alike hK, hD2⟩, hS.F ht⟩) (fun z hz => hS.2.2 z hz) dL_table_20)
abbrev rmL_seed : Room := { frames := 2, cells := 0, slots := 0, locals := 44 }
abbrev rmLT_seed : Room := { frames := 8, cells := 1, slots := 6, locals := 162 }
set_option maxHeartbeats 4000000 in
set_option maxRecDepth 100000 in
theorem law_seed_ok (l : Launch) (D : va_G) (k : Nat → ClassId) (wb : va_W) (wb' : (Nat → Nat) → va_W) (aU0 : Nat) (fs : List Value) (hb0 : wb[0]? = some (aU0, .inr (6, fs))) (qo : Nat) (f : Nat → Int64) (sz : Nat) (v1 : Int32) (r : Int32) (hM : ∀ sz : Nat, Met l yX6_seed wsX6_seed rmX6_seed (va_Pc [.ref aU0, .int v1] (PreN D k wb sz)) (va_Qi (fun r9 (_ : Nat → Nat) => r9 = r) (fun u t => PostW D k (va_A wb sz) (wb' u) t) (va_A wb sz)) 0 0 (va_A wb sz)) : vx_Met l yL_seed wsL_seed rmL_seed (va_Pc [.ref aU0, .int v1, .ref qo] (PreN D k (wo k qo f ++ wb) sz)) (va_Qi (fun r9 (_ : Nat → Nat) => r9 = 0) (fun u t => PostW D k (va_A (wo k qo f ++ wb) sz) (wo k qo (vp_updL f 0 (r.toInt64)) ++ wb' u) t) (va_A (wo k qo f ++ wb) sz)) NX 0 0 (va_A (wo k qo f ++ wb) sz) := by
  refine vx_ofWH (cc := cL_seed) (maxL := 4) (ret := (some .int)) (hh := [(0, 9, 12, 15)]) (by decide) rfl ?_
  intro p e s m args below meth c s₁ B hml hv
  obtain ⟨hav, ⟨hsz, hP, hK, hD0⟩, hNW⟩ := hv
  have hx := B.exec
  have hb := B.bytes
  have hr := B.returns
  have hts := atoms_spec (ws := wsL_seed) B.pre
  have hown : s.vm.findClass RL = some m.cls := findClass_of_methodNamed B.named
  have hlocks := B.notSynchronized
  subst hsz
  have hD := hD0.self (sz := s.heap.size)
  clear hD0
  obtain ⟨A, hAe⟩ : ∃ A, va_A (wo k qo f ++ wb) s.heap.size = A := ⟨_, rfl⟩
  rw [hAe] at hD
  have hA : ∀ q : Nat, s.heap.size ≤ q → A q := fun q h => by rw [← hAe]; exact Or.inr h
  have hS : va_S A s.heap s.heap [] := va_S.rf
  have hl := lv_entry ([.ref aU0, .int v1, .ref qo]) (n := 4) (Nat.le_of_ble_eq_true rfl)
  rw [show entryFrame m args 4 = entryFrame m ([.ref aU0, .int v1, .ref qo] : List Value).toArray 4 from by rw [hav], lg_entry_eq]
  generalize (lg_sl ([.ref aU0, .int v1, .ref qo]) ++ List.replicate (4 - (lg_sl ([.ref aU0, .int v1, .ref qo])).length) Slot.unset).toArray = ls at hl ⊢
  replace hl : lv_has ls 4 [(0, .ref aU0), (1, .int v1), (2, .ref qo)] := hl
  rw [hAe]
  show W p l e rmL_seed s m args below meth c s.heap [] 0 0 _ (F0 m 0 ls [])
  refine lv_aload_n hx hb dL_seed_0 rfl (lv_at hl 2 rfl) ?_
  refine lv_iconst (v := 0) hx hb dL_seed_1 (by decide) ?_
  refine lv_aload_n hx hb dL_seed_2 rfl (lv_at hl 0 rfl) ?_
  refine lv_iload_n hx hb dL_seed_3 rfl (lv_at hl 1 rfl) ?_
  have hFc := vs_free (vd_r hD) hS hA
  refine xc_iG (va_runV (As := [.int v1]) (rest := [.int 0, .ref qo]) ⟨hx, hb, hml, hown, hts⟩ (hM s.heap.size) (cwV 1 hts gL_seed_X6_seed rfl rfl rfl (by decide +kernel) ⟨Nat.le_of_ble_eq_true rfl, Nat.le_of_ble_eq_true rfl⟩) ⟨pn_blind, va_recv hK (vs_r hP) (ci := 6) (q0 := 0) rfl hb0, pn_start (vs_r hP) hK (vd_r hD) hNW⟩ rfl rfl hl.1 rfl (lv_room (Nat.le_of_ble_eq_true rfl)) dL_seed_4 ⟨Nat.zero_le _, Nat.zero_le _⟩) hS hFc (fun u H1 locs hP1 hD1 hk1 hS => ?_)
  obtain ⟨hP, hD⟩ := vs_joinR hP hD hFc hk1 hP1 hD1
  clear hP1 hD1 hk1 hFc
  refine lv_i2l hx hb dL_seed_7 rfl ?_
  refine va_last hx hb hK hP hD hS 0 1 rfl rfl (vp_in_nI (n := 0) (N := 1) (by decide) (by decide)) dL_seed_8 (fun H locs hP hD hS => ?_)
  replace hP : va_P D vwCl (wo k qo (vp_updL f 0 (r.toInt64)) ++ wb' u) H := hP
  replace hD : va_D A (wo k qo (vp_updL f 0 (r.toInt64)) ++ wb' u) := hD
  refine lv_goto (tgt := 15) hx hb dL_seed_9 (by decide) ?_
  refine lv_iconst (v := 0) hx hb dL_seed_15 (by decide) ?_
  exact vx_ret (W.iret hx hb hr (fun t ht hW => ⟨⟨_, u, rfl, rfl, by rw [ht]; exact hP, va_K.moved hW.alike hK, hD⟩, hS.F ht⟩) hS.2.2 dL_seed_16)
set_option maxHeartbeats 4000000 in
set_option maxRecDepth 100000 in
theorem law_seed_x1 (l : Launch) (D : va_G) (k : Nat → ClassId) (wb : va_W) (aU0 : Nat) (fs : List Value) (hb0 : wb[0]? = some (aU0, .inr (6, fs))) (qo : Nat) (sz : Nat) (v1 : Int32) (hM : ∀ sz : Nat, vx_Met l yX6_seed wsX6_seed rmTX6_seed (va_Pc [.ref aU0, .int v1] (PreX D k wb sz)) NQ (XQ D k wb sz exA) 1 6 (va_A wb sz)) : vx_Met l yL_seed wsL_seed rmLT_seed (va_Pc [.ref aU0, .int v1, .ref qo] (PreY D k wb sz)) (va_Qi (fun r9 (_ : Unit) => r9 = 1) (fun _ t => PostW D k (va_A wb sz) wb t) (va_A wb sz)) NX 1 6 (va_A wb sz) := by
  refine vx_ofWH (cc := cL_seed) (maxL := 4) (ret := (some .int)) (hh := [(0, 9, 12, 15)]) (by decide) rfl ?_
  intro p e s m args below meth c s₁ B hml hv
  obtain ⟨hav, ⟨⟨hsz, hP, hK, hD0⟩, hXP⟩, hXN⟩ := hv
  have hx := B.exec
  have hb := B.bytes
  have hr := B.returns
  have hts := atoms_spec (ws := wsL_seed) B.pre
  have hown : s.vm.findClass RL = some m.cls := findClass_of_methodNamed B.named
  have hlocks := B.notSynchronized
  subst hsz
  have hD := hD0.self (sz := s.heap.size)
  clear hD0
  obtain ⟨A, hAe⟩ : ∃ A, va_A wb s.heap.size = A := ⟨_, rfl⟩
  rw [hAe] at hD hXP
  have hA : ∀ q : Nat, s.heap.size ≤ q → A q := fun q h => by rw [← hAe]; exact Or.inr h
  have hS : va_S A s.heap s.heap [] := va_S.rf
  have hl := lv_entry ([.ref aU0, .int v1, .ref qo]) (n := 4) (Nat.le_of_ble_eq_true rfl)
  rw [show entryFrame m args 4 = entryFrame m ([.ref aU0, .int v1, .ref qo] : List Value).toArray 4 from by rw [hav], lg_entry_eq]
  generalize (lg_sl ([.ref aU0, .int v1, .ref qo]) ++ List.replicate (4 - (lg_sl ([.ref aU0, .int v1, .ref qo])).length) Slot.unset).toArray = ls at hl ⊢
  replace hl : lv_has ls 4 [(0, .ref aU0), (1, .int v1), (2, .ref qo)] := hl
  rw [hAe]
  show W p l e rmLT_seed s m args below meth c s.heap [] 0 0 _ (F0 m 0 ls [])
  have htab : c.exceptionTable.toList = [⟨0, 9, 12, 15⟩] := vx_table (x := yL_seed) B (hts (.codeWith yL_seed cL_seed 4 (some .int) [(0, 9, 12, 15)]) List.mem_cons_self)
  refine lv_aload_n hx hb dL_seed_0 rfl (lv_at hl 2 rfl) ?_
  refine lv_iconst (v := 0) hx hb dL_seed_1 (by decide) ?_
  refine lv_aload_n hx hb dL_seed_2 rfl (lv_at hl 0 rfl) ?_
  refine lv_iload_n hx hb dL_seed_3 rfl (lv_at hl 1 rfl) ?_
  have hFc := vs_free hD hS hA
  refine xt_c (vx_runV (As := [.int v1]) (rest := [.int 0, .ref qo]) ⟨hx, hb, hml, hown, hts⟩ (hM s.heap.size) (cwV 1 hts gL_seed_X6_seed rfl rfl rfl (by decide +kernel) ⟨Nat.le_of_ble_eq_true rfl, Nat.le_of_ble_eq_true rfl⟩) ⟨px_blind, va_recv hK hP (ci := 6) (q0 := 0) rfl hb0, px_start hP hK hD hXP hFc⟩ rfl rfl hl.1 rfl (lv_room (Nat.le_of_ble_eq_true rfl)) dL_seed_4 ⟨Nat.le_refl _, Nat.le_refl _⟩) hS hFc (fun ce q9 H1 locs hP1 hD1 hk1 hS hc1 hc2 hc3 => ?_)
  refine vx_catch (name := exA) (E := exA) hown [] ⟨0, 9, 12, 15⟩ [] htab (fun z hz => nomatch hz) rfl (by decide) (hts (.classLink RL 15 exA) (by decide +kernel)) (va_Nw.use rfl (hXP.2.2.2.1 exA (by decide +kernel))) hc1 hc2 hc3 ?_
  show W p l e rmLT_seed s m args below meth c H1 locs 1 6 _ (F0 m 12 ls [.ref q9])
  refine lv_astore_n (lv' := [(3, .ref q9), (0, .ref aU0), (1, .int v1), (2, .ref qo)]) hx hb dL_seed_12 rfl hl (by decide) rfl (fun ls hl => ?_)
  refine lv_iconst (v := 1) hx hb dL_seed_13 (by decide) ?_
  have hD2 : va_D A wb := hD
  exact vx_ret (W.iret hx hb hr (fun t ht hW => ⟨⟨_, (), rfl, rfl, by rw [ht]; exact hP1, va_K.moved hW.alike hK, hD2⟩, hS.F ht⟩) (fun z hz => hS.2.2 z hz) dL_seed_14)
abbrev rmL_draw : Room := { frames := 6, cells := 0, slots := 0, locals := 150 }
abbrev rmLT_draw : Room := { frames := 8, cells := 1, slots := 6, locals := 171 }
set_option maxHeartbeats 4000000 in
set_option maxRecDepth 100000 in
theorem law_draw_ok (l : Launch) (D : va_G) (k : Nat → ClassId) (wb : va_W) (wb' : (Nat → Nat) → va_W) (aU0 : Nat) (fs : List Value) (hb0 : wb[0]? = some (aU0, .inr (6, fs))) (qo : Nat) (f : Nat → Int64) (sz : Nat) (v1 : Int32) (v2 : Int32) (r : Int32) (hM : ∀ sz : Nat, Met l yX6_draw wsX6_draw rmX6_draw (va_Pc [.ref aU0, .int v1, .int v2] (PreN D k wb sz)) (va_Qi (fun r9 (_ : Nat → Nat) => r9 = r) (fun u t => PostW D k (va_A wb sz) (wb' u) t) (va_A wb sz)) 0 0 (va_A wb sz)) : vx_Met l yL_draw wsL_draw rmL_draw (va_Pc [.ref aU0, .int v1, .int v2, .ref qo] (PreN D k (wo k qo f ++ wb) sz)) (va_Qi (fun r9 (_ : Nat → Nat) => r9 = 0) (fun u t => PostW D k (va_A (wo k qo f ++ wb) sz) (wo k qo (vp_updL f 0 (r.toInt64)) ++ wb' u) t) (va_A (wo k qo f ++ wb) sz)) NX 0 0 (va_A (wo k qo f ++ wb) sz) := by
  refine vx_ofWH (cc := cL_draw) (maxL := 5) (ret := (some .int)) (hh := [(0, 10, 13, 13), (0, 10, 17, 15)]) (by decide) rfl ?_
  intro p e s m args below meth c s₁ B hml hv
  obtain ⟨hav, ⟨hsz, hP, hK, hD0⟩, hNW⟩ := hv
  have hx := B.exec
  have hb := B.bytes
  have hr := B.returns
  have hts := atoms_spec (ws := wsL_draw) B.pre
  have hown : s.vm.findClass RL = some m.cls := findClass_of_methodNamed B.named
  have hlocks := B.notSynchronized
  subst hsz
  have hD := hD0.self (sz := s.heap.size)
  clear hD0
  obtain ⟨A, hAe⟩ : ∃ A, va_A (wo k qo f ++ wb) s.heap.size = A := ⟨_, rfl⟩
  rw [hAe] at hD
  have hA : ∀ q : Nat, s.heap.size ≤ q → A q := fun q h => by rw [← hAe]; exact Or.inr h
  have hS : va_S A s.heap s.heap [] := va_S.rf
  have hl := lv_entry ([.ref aU0, .int v1, .int v2, .ref qo]) (n := 5) (Nat.le_of_ble_eq_true rfl)
  rw [show entryFrame m args 5 = entryFrame m ([.ref aU0, .int v1, .int v2, .ref qo] : List Value).toArray 5 from by rw [hav], lg_entry_eq]
  generalize (lg_sl ([.ref aU0, .int v1, .int v2, .ref qo]) ++ List.replicate (5 - (lg_sl ([.ref aU0, .int v1, .int v2, .ref qo])).length) Slot.unset).toArray = ls at hl ⊢
  replace hl : lv_has ls 5 [(0, .ref aU0), (1, .int v1), (2, .int v2), (3, .ref qo)] := hl
  rw [hAe]
  show W p l e rmL_draw s m args below meth c s.heap [] 0 0 _ (F0 m 0 ls [])
  refine lv_aload_n hx hb dL_draw_0 rfl (lv_at hl 3 rfl) ?_
  refine lv_iconst (v := 0) hx hb dL_draw_1 (by decide) ?_
  refine lv_aload_n hx hb dL_draw_2 rfl (lv_at hl 0 rfl) ?_
  refine lv_iload_n hx hb dL_draw_3 rfl (lv_at hl 1 rfl) ?_
  refine lv_iload_n hx hb dL_draw_4 rfl (lv_at hl 2 rfl) ?_
  have hFc := vs_free (vd_r hD) hS hA
  refine xc_iG (va_runV (As := [.int v1, .int v2]) (rest := [.int 0, .ref qo]) ⟨hx, hb, hml, hown, hts⟩ (hM s.heap.size) (cwV 2 hts gL_draw_X6_draw rfl rfl rfl (by decide +kernel) ⟨Nat.le_of_ble_eq_true rfl, Nat.le_of_ble_eq_true rfl⟩) ⟨pn_blind, va_recv hK (vs_r hP) (ci := 6) (q0 := 0) rfl hb0, pn_start (vs_r hP) hK (vd_r hD) hNW⟩ rfl rfl hl.1 rfl (lv_room (Nat.le_of_ble_eq_true rfl)) dL_draw_5 ⟨Nat.zero_le _, Nat.zero_le _⟩) hS hFc (fun u H1 locs hP1 hD1 hk1 hS => ?_)
  obtain ⟨hP, hD⟩ := vs_joinR hP hD hFc hk1 hP1 hD1
  clear hP1 hD1 hk1 hFc
  refine lv_i2l hx hb dL_draw_8 rfl ?_
  refine va_last hx hb hK hP hD hS 0 1 rfl rfl (vp_in_nI (n := 0) (N := 1) (by decide) (by decide)) dL_draw_9 (fun H locs hP hD hS => ?_)
  replace hP : va_P D vwCl (wo k qo (vp_updL f 0 (r.toInt64)) ++ wb' u) H := hP
  replace hD : va_D A (wo k qo (vp_updL f 0 (r.toInt64)) ++ wb' u) := hD
  refine lv_goto (tgt := 21) hx hb dL_draw_10 (by decide) ?_
  refine lv_iconst (v := 0) hx hb dL_draw_21 (by decide) ?_
  exact vx_ret (W.iret hx hb hr (fun t ht hW => ⟨⟨_, u, rfl, rfl, by rw [ht]; exact hP, va_K.moved hW.alike hK, hD⟩, hS.F ht⟩) hS.2.2 dL_draw_22)
set_option maxHeartbeats 4000000 in
set_option maxRecDepth 100000 in
theorem law_draw_x1 (l : Launch) (D : va_G) (k : Nat → ClassId) (wb : va_W) (aU0 : Nat) (fs : List Value) (hb0 : wb[0]? = some (aU0, .inr (6, fs))) (qo : Nat) (sz : Nat) (v1 : Int32) (v2 : Int32) (hM : ∀ sz : Nat, vx_Met l yX6_draw wsX6_draw rmTX6_draw (va_Pc [.ref aU0, .int v1, .int v2] (PreX D k wb sz)) NQ (XQ D k wb sz exI) 1 6 (va_A wb sz)) : vx_Met l yL_draw wsL_draw rmLT_draw (va_Pc [.ref aU0, .int v1, .int v2, .ref qo] (PreY D k wb sz)) (va_Qi (fun r9 (_ : Unit) => r9 = 1) (fun _ t => PostW D k (va_A wb sz) wb t) (va_A wb sz)) NX 1 6 (va_A wb sz) := by
  refine vx_ofWH (cc := cL_draw) (maxL := 5) (ret := (some .int)) (hh := [(0, 10, 13, 13), (0, 10, 17, 15)]) (by decide) rfl ?_
  intro p e s m args below meth c s₁ B hml hv
  obtain ⟨hav, ⟨⟨hsz, hP, hK, hD0⟩, hXP⟩, hXN⟩ := hv
  have hx := B.exec
  have hb := B.bytes
  have hr := B.returns
  have hts := atoms_spec (ws := wsL_draw) B.pre
  have hown : s.vm.findClass RL = some m.cls := findClass_of_methodNamed B.named
  have hlocks := B.notSynchronized
  subst hsz
  have hD := hD0.self (sz := s.heap.size)
  clear hD0
  obtain ⟨A, hAe⟩ : ∃ A, va_A wb s.heap.size = A := ⟨_, rfl⟩
  rw [hAe] at hD hXP
  have hA : ∀ q : Nat, s.heap.size ≤ q → A q := fun q h => by rw [← hAe]; exact Or.inr h
  have hS : va_S A s.heap s.heap [] := va_S.rf
  have hl := lv_entry ([.ref aU0, .int v1, .int v2, .ref qo]) (n := 5) (Nat.le_of_ble_eq_true rfl)
  rw [show entryFrame m args 5 = entryFrame m ([.ref aU0, .int v1, .int v2, .ref qo] : List Value).toArray 5 from by rw [hav], lg_entry_eq]
  generalize (lg_sl ([.ref aU0, .int v1, .int v2, .ref qo]) ++ List.replicate (5 - (lg_sl ([.ref aU0, .int v1, .int v2, .ref qo])).length) Slot.unset).toArray = ls at hl ⊢
  replace hl : lv_has ls 5 [(0, .ref aU0), (1, .int v1), (2, .int v2), (3, .ref qo)] := hl
  rw [hAe]
  show W p l e rmLT_draw s m args below meth c s.heap [] 0 0 _ (F0 m 0 ls [])
  have htab : c.exceptionTable.toList = [⟨0, 10, 13, 13⟩, ⟨0, 10, 17, 15⟩] := vx_table (x := yL_draw) B (hts (.codeWith yL_draw cL_draw 5 (some .int) [(0, 10, 13, 13), (0, 10, 17, 15)]) List.mem_cons_self)
  refine lv_aload_n hx hb dL_draw_0 rfl (lv_at hl 3 rfl) ?_
  refine lv_iconst (v := 0) hx hb dL_draw_1 (by decide) ?_
  refine lv_aload_n hx hb dL_draw_2 rfl (lv_at hl 0 rfl) ?_
  refine lv_iload_n hx hb dL_draw_3 rfl (lv_at hl 1 rfl) ?_
  refine lv_iload_n hx hb dL_draw_4 rfl (lv_at hl 2 rfl) ?_
  have hFc := vs_free hD hS hA
  refine xt_c (vx_runV (As := [.int v1, .int v2]) (rest := [.int 0, .ref qo]) ⟨hx, hb, hml, hown, hts⟩ (hM s.heap.size) (cwV 2 hts gL_draw_X6_draw rfl rfl rfl (by decide +kernel) ⟨Nat.le_of_ble_eq_true rfl, Nat.le_of_ble_eq_true rfl⟩) ⟨px_blind, va_recv hK hP (ci := 6) (q0 := 0) rfl hb0, px_start hP hK hD hXP hFc⟩ rfl rfl hl.1 rfl (lv_room (Nat.le_of_ble_eq_true rfl)) dL_draw_5 ⟨Nat.le_refl _, Nat.le_refl _⟩) hS hFc (fun ce q9 H1 locs hP1 hD1 hk1 hS hc1 hc2 hc3 => ?_)
  refine vx_catch (name := exI) (E := exI) hown [] ⟨0, 10, 13, 13⟩ [⟨0, 10, 17, 15⟩] htab (fun z hz => nomatch hz) rfl (by decide) (hts (.classLink RL 13 exI) (by decide +kernel)) (va_Nw.use rfl (hXP.2.2.2.1 exI (by decide +kernel))) hc1 hc2 hc3 ?_
  show W p l e rmLT_draw s m args below meth c H1 locs 1 6 _ (F0 m 13 ls [.ref q9])
  refine lv_astore (lv' := [(4, .ref q9), (0, .ref aU0), (1, .int v1), (2, .int v2), (3, .ref qo)]) hx hb dL_draw_13 hl (by decide) rfl (fun ls hl => ?_)
  refine lv_iconst (v := 1) hx hb dL_draw_15 (by decide) ?_
  have hD2 : va_D A wb := hD
  exact vx_ret (W.iret hx hb hr (fun t ht hW => ⟨⟨_, (), rfl, rfl, by rw [ht]; exact hP1, va_K.moved hW.alike hK, hD2⟩, hS.F ht⟩) (fun z hz => hS.2.2 z hz) dL_draw_16)
set_option maxHeartbeats 4000000 in
set_option maxRecDepth 100000 in
theorem law_draw_x2 (l : Launch) (D : va_G) (k : Nat → ClassId) (wb : va_W) (aU0 : Nat) (fs : List Value) (hb0 : wb[0]? = some (aU0, .inr (6, fs))) (qo : Nat) (sz : Nat) (v1 : Int32) (v2 : Int32) (hM : ∀ sz : Nat, vx_Met l yX6_draw wsX6_draw rmTX6_draw (va_Pc [.ref aU0, .int v1, .int v2] (PreX D k wb sz)) NQ (XQ D k wb sz exA) 1 6 (va_A wb sz)) : vx_Met l yL_draw wsL_draw rmLT_draw (va_Pc [.ref aU0, .int v1, .int v2, .ref qo] (PreY D k wb sz)) (va_Qi (fun r9 (_ : Unit) => r9 = 2) (fun _ t => PostW D k (va_A wb sz) wb t) (va_A wb sz)) NX 1 6 (va_A wb sz) := by
  refine vx_ofWH (cc := cL_draw) (maxL := 5) (ret := (some .int)) (hh := [(0, 10, 13, 13), (0, 10, 17, 15)]) (by decide) rfl ?_
  intro p e s m args below meth c s₁ B hml hv
  obtain ⟨hav, ⟨⟨hsz, hP, hK, hD0⟩, hXP⟩, hXN⟩ := hv
  have hx := B.exec
  have hb := B.bytes
  have hr := B.returns
  have hts := atoms_spec (ws := wsL_draw) B.pre
  have hown : s.vm.findClass RL = some m.cls := findClass_of_methodNamed B.named
  have hlocks := B.notSynchronized
  subst hsz
  have hD := hD0.self (sz := s.heap.size)
  clear hD0
  obtain ⟨A, hAe⟩ : ∃ A, va_A wb s.heap.size = A := ⟨_, rfl⟩
  rw [hAe] at hD hXP
  have hA : ∀ q : Nat, s.heap.size ≤ q → A q := fun q h => by rw [← hAe]; exact Or.inr h
  have hS : va_S A s.heap s.heap [] := va_S.rf
  have hl := lv_entry ([.ref aU0, .int v1, .int v2, .ref qo]) (n := 5) (Nat.le_of_ble_eq_true rfl)
  rw [show entryFrame m args 5 = entryFrame m ([.ref aU0, .int v1, .int v2, .ref qo] : List Value).toArray 5 from by rw [hav], lg_entry_eq]
  generalize (lg_sl ([.ref aU0, .int v1, .int v2, .ref qo]) ++ List.replicate (5 - (lg_sl ([.ref aU0, .int v1, .int v2, .ref qo])).length) Slot.unset).toArray = ls at hl ⊢
  replace hl : lv_has ls 5 [(0, .ref aU0), (1, .int v1), (2, .int v2), (3, .ref qo)] := hl
  rw [hAe]
  show W p l e rmLT_draw s m args below meth c s.heap [] 0 0 _ (F0 m 0 ls [])
  have htab : c.exceptionTable.toList = [⟨0, 10, 13, 13⟩, ⟨0, 10, 17, 15⟩] := vx_table (x := yL_draw) B (hts (.codeWith yL_draw cL_draw 5 (some .int) [(0, 10, 13, 13), (0, 10, 17, 15)]) List.mem_cons_self)
  refine lv_aload_n hx hb dL_draw_0 rfl (lv_at hl 3 rfl) ?_
  refine lv_iconst (v := 0) hx hb dL_draw_1 (by decide) ?_
  refine lv_aload_n hx hb dL_draw_2 rfl (lv_at hl 0 rfl) ?_
  refine lv_iload_n hx hb dL_draw_3 rfl (lv_at hl 1 rfl) ?_
  refine lv_iload_n hx hb dL_draw_4 rfl (lv_at hl 2 rfl) ?_
  have hFc := vs_free hD hS hA
  refine xt_c (vx_runV (As := [.int v1, .int v2]) (rest := [.int 0, .ref qo]) ⟨hx, hb, hml, hown, hts⟩ (hM s.heap.size) (cwV 2 hts gL_draw_X6_draw rfl rfl rfl (by decide +kernel) ⟨Nat.le_of_ble_eq_true rfl, Nat.le_of_ble_eq_true rfl⟩) ⟨px_blind, va_recv hK hP (ci := 6) (q0 := 0) rfl hb0, px_start hP hK hD hXP hFc⟩ rfl rfl hl.1 rfl (lv_room (Nat.le_of_ble_eq_true rfl)) dL_draw_5 ⟨Nat.le_refl _, Nat.le_refl _⟩) hS hFc (fun ce q9 H1 locs hP1 hD1 hk1 hS hc1 hc2 hc3 => ?_)
  refine vx_catch (name := exA) (E := exA) hown [⟨0, 10, 13, 13⟩] ⟨0, 10, 17, 15⟩ [] htab (List.forall_mem_cons.mpr ⟨Or.inr ⟨by decide, exI, hts (.classLink RL 13 exI) (by decide +kernel), hXN.1⟩, fun _ h => absurd h List.not_mem_nil⟩) rfl (by decide) (hts (.classLink RL 15 exA) (by decide +kernel)) (va_Nw.use rfl (hXP.2.2.2.1 exA (by decide +kernel))) hc1 hc2 hc3 ?_
  show W p l e rmLT_draw s m args below meth c H1 locs 1 6 _ (F0 m 17 ls [.ref q9])
  refine lv_astore (lv' := [(4, .ref q9), (0, .ref aU0), (1, .int v1), (2, .int v2), (3, .ref qo)]) hx hb dL_draw_17 hl (by decide) rfl (fun ls hl => ?_)
  refine lv_iconst (v := 2) hx hb dL_draw_19 (by decide) ?_
  have hD2 : va_D A wb := hD
  exact vx_ret (W.iret hx hb hr (fun t ht hW => ⟨⟨_, (), rfl, rfl, by rw [ht]; exact hP1, va_K.moved hW.alike hK, hD2⟩, hS.F ht⟩) (fun z hz => hS.2.2 z hz) dL_draw_20)
