abbrev rmL_unit : Room := { frames := 9, cells := 0, slots := 0, locals := 923 }
abbrev rmLT_unit : Room := { frames := 8, cells := 1, slots := 6, locals := 163 }
set_option maxHeartbeats 4000000 in
set_option maxRecDepth 100000 in
theorem law_unit_ok (l : Launch) (D : va_G) (k : Nat → ClassId) (wb : va_W) (wb' : (Nat → Nat) → va_W) (aU0 : Nat) (fs : List Value) (hb0 : wb[0]? = some (aU0, .inr (6, fs))) (qo : Nat) (f : Nat → Int64) (sz : Nat) (v1 : Int32) (v2 : Int32) (v3 : Int32) (r : Int32) (hM : ∀ sz : Nat, Met l yX6_unit wsX6_unit rmX6_unit (va_Pc [.ref aU0, .int v1, .int v2, .int v3] (PreN D k wb sz)) (va_Qi (fun r9 (_ : Nat → Nat) => r9 = r) (fun u t => PostW D k (va_A wb sz) (wb' u) t) (va_A wb sz)) 0 0 (va_A wb sz)) : vx_Met l yL_unit wsL_unit rmL_unit (va_Pc [.ref aU0, .int v1, .int v2, .int v3, .ref qo] (PreN D k (wo k qo f ++ wb) sz)) (va_Qi (fun r9 (_ : Nat → Nat) => r9 = 0) (fun u t => PostW D k (va_A (wo k qo f ++ wb) sz) (wo k qo (vp_updL f 0 (r.toInt64)) ++ wb' u) t) (va_A (wo k qo f ++ wb) sz)) NX 0 0 (va_A (wo k qo f ++ wb) sz) := by
  refine vx_ofWH (cc := cL_unit) (maxL := 6) (ret := (some .int)) (hh := [(0, 12, 15, 13), (0, 12, 19, 15)]) (by decide) rfl ?_
  intro p e s m args below meth c s₁ B hml hv
  obtain ⟨hav, ⟨hsz, hP, hK, hD0⟩, hNW⟩ := hv
  have hx := B.exec
  have hb := B.bytes
  have hr := B.returns
  have hts := atoms_spec (ws := wsL_unit) B.pre
  have hown : s.vm.findClass RL = some m.cls := findClass_of_methodNamed B.named
  have hlocks := B.notSynchronized
  subst hsz
  have hD := hD0.self (sz := s.heap.size)
  clear hD0
  obtain ⟨A, hAe⟩ : ∃ A, va_A (wo k qo f ++ wb) s.heap.size = A := ⟨_, rfl⟩
  rw [hAe] at hD
  have hA : ∀ q : Nat, s.heap.size ≤ q → A q := fun q h => by rw [← hAe]; exact Or.inr h
  have hS : va_S A s.heap s.heap [] := va_S.rf
  have hl := lv_entry ([.ref aU0, .int v1, .int v2, .int v3, .ref qo]) (n := 6) (Nat.le_of_ble_eq_true rfl)
  rw [show entryFrame m args 6 = entryFrame m ([.ref aU0, .int v1, .int v2, .int v3, .ref qo] : List Value).toArray 6 from by rw [hav], lg_entry_eq]
  generalize (lg_sl ([.ref aU0, .int v1, .int v2, .int v3, .ref qo]) ++ List.replicate (6 - (lg_sl ([.ref aU0, .int v1, .int v2, .int v3, .ref qo])).length) Slot.unset).toArray = ls at hl ⊢
  replace hl : lv_has ls 6 [(0, .ref aU0), (1, .int v1), (2, .int v2), (3, .int v3), (4, .ref qo)] := hl
  rw [hAe]
  show W p l e rmL_unit s m args below meth c s.heap [] 0 0 _ (F0 m 0 ls [])
  refine lv_aload hx hb dL_unit_0 (lv_at hl 4 rfl) ?_
  refine lv_iconst (v := 0) hx hb dL_unit_2 (by decide) ?_
  refine lv_aload_n hx hb dL_unit_3 rfl (lv_at hl 0 rfl) ?_
  refine lv_iload_n hx hb dL_unit_4 rfl (lv_at hl 1 rfl) ?_
  refine lv_iload_n hx hb dL_unit_5 rfl (lv_at hl 2 rfl) ?_
  refine lv_iload_n hx hb dL_unit_6 rfl (lv_at hl 3 rfl) ?_
  have hFc := vs_free (vd_r hD) hS hA
  refine xc_iG (va_runV (As := [.int v1, .int v2, .int v3]) (rest := [.int 0, .ref qo]) ⟨hx, hb, hml, hown, hts⟩ (hM s.heap.size) (cwV 3 hts gL_unit_X6_unit rfl rfl rfl (by decide +kernel) ⟨Nat.le_of_ble_eq_true rfl, Nat.le_of_ble_eq_true rfl⟩) ⟨pn_blind, va_recv hK (vs_r hP) (ci := 6) (q0 := 0) rfl hb0, pn_start (vs_r hP) hK (vd_r hD) hNW⟩ rfl rfl hl.1 rfl (lv_room (Nat.le_of_ble_eq_true rfl)) dL_unit_7 ⟨Nat.zero_le _, Nat.zero_le _⟩) hS hFc (fun u H1 locs hP1 hD1 hk1 hS => ?_)
  obtain ⟨hP, hD⟩ := vs_joinR hP hD hFc hk1 hP1 hD1
  clear hP1 hD1 hk1 hFc
  refine lv_i2l hx hb dL_unit_10 rfl ?_
  refine va_last hx hb hK hP hD hS 0 1 rfl rfl (vp_in_nI (n := 0) (N := 1) (by decide) (by decide)) dL_unit_11 (fun H locs hP hD hS => ?_)
  replace hP : va_P D vwCl (wo k qo (vp_updL f 0 (r.toInt64)) ++ wb' u) H := hP
  replace hD : va_D A (wo k qo (vp_updL f 0 (r.toInt64)) ++ wb' u) := hD
  refine lv_goto (tgt := 23) hx hb dL_unit_12 (by decide) ?_
  refine lv_iconst (v := 0) hx hb dL_unit_23 (by decide) ?_
  exact vx_ret (W.iret hx hb hr (fun t ht hW => ⟨⟨_, u, rfl, rfl, by rw [ht]; exact hP, va_K.moved hW.alike hK, hD⟩, hS.F ht⟩) hS.2.2 dL_unit_24)
set_option maxHeartbeats 4000000 in
set_option maxRecDepth 100000 in
theorem law_unit_x1 (l : Launch) (D : va_G) (k : Nat → ClassId) (wb : va_W) (aU0 : Nat) (fs : List Value) (hb0 : wb[0]? = some (aU0, .inr (6, fs))) (qo : Nat) (sz : Nat) (v1 : Int32) (v2 : Int32) (v3 : Int32) (hM : ∀ sz : Nat, vx_Met l yX6_unit wsX6_unit rmTX6_unit (va_Pc [.ref aU0, .int v1, .int v2, .int v3] (PreX D k wb sz)) NQ (XQ D k wb sz exI) 1 6 (va_A wb sz)) : vx_Met l yL_unit wsL_unit rmLT_unit (va_Pc [.ref aU0, .int v1, .int v2, .int v3, .ref qo] (PreY D k wb sz)) (va_Qi (fun r9 (_ : Unit) => r9 = 1) (fun _ t => PostW D k (va_A wb sz) wb t) (va_A wb sz)) NX 1 6 (va_A wb sz) := by
  refine vx_ofWH (cc := cL_unit) (maxL := 6) (ret := (some .int)) (hh := [(0, 12, 15, 13), (0, 12, 19, 15)]) (by decide) rfl ?_
  intro p e s m args below meth c s₁ B hml hv
  obtain ⟨hav, ⟨⟨hsz, hP, hK, hD0⟩, hXP⟩, hXN⟩ := hv
  have hx := B.exec
  have hb := B.bytes
  have hr := B.returns
  have hts := atoms_spec (ws := wsL_unit) B.pre
  have hown : s.vm.findClass RL = some m.cls := findClass_of_methodNamed B.named
  have hlocks := B.notSynchronized
  subst hsz
  have hD := hD0.self (sz := s.heap.size)
  clear hD0
  obtain ⟨A, hAe⟩ : ∃ A, va_A wb s.heap.size = A := ⟨_, rfl⟩
  rw [hAe] at hD hXP
  have hA : ∀ q : Nat, s.heap.size ≤ q → A q := fun q h => by rw [← hAe]; exact Or.inr h
  have hS : va_S A s.heap s.heap [] := va_S.rf
  have hl := lv_entry ([.ref aU0, .int v1, .int v2, .int v3, .ref qo]) (n := 6) (Nat.le_of_ble_eq_true rfl)
  rw [show entryFrame m args 6 = entryFrame m ([.ref aU0, .int v1, .int v2, .int v3, .ref qo] : List Value).toArray 6 from by rw [hav], lg_entry_eq]
  generalize (lg_sl ([.ref aU0, .int v1, .int v2, .int v3, .ref qo]) ++ List.replicate (6 - (lg_sl ([.ref aU0, .int v1, .int v2, .int v3, .ref qo])).length) Slot.unset).toArray = ls at hl ⊢
  replace hl : lv_has ls 6 [(0, .ref aU0), (1, .int v1), (2, .int v2), (3, .int v3), (4, .ref qo)] := hl
  rw [hAe]
  show W p l e rmLT_unit s m args below meth c s.heap [] 0 0 _ (F0 m 0 ls [])
  have htab : c.exceptionTable.toList = [⟨0, 12, 15, 13⟩, ⟨0, 12, 19, 15⟩] := vx_table (x := yL_unit) B (hts (.codeWith yL_unit cL_unit 6 (some .int) [(0, 12, 15, 13), (0, 12, 19, 15)]) List.mem_cons_self)
  refine lv_aload hx hb dL_unit_0 (lv_at hl 4 rfl) ?_
  refine lv_iconst (v := 0) hx hb dL_unit_2 (by decide) ?_
  refine lv_aload_n hx hb dL_unit_3 rfl (lv_at hl 0 rfl) ?_
  refine lv_iload_n hx hb dL_unit_4 rfl (lv_at hl 1 rfl) ?_
  refine lv_iload_n hx hb dL_unit_5 rfl (lv_at hl 2 rfl) ?_
  refine lv_iload_n hx hb dL_unit_6 rfl (lv_at hl 3 rfl) ?_
  have hFc := vs_free hD hS hA
  refine xt_c (vx_runV (As := [.int v1, .int v2, .int v3]) (rest := [.int 0, .ref qo]) ⟨hx, hb, hml, hown, hts⟩ (hM s.heap.size) (cwV 3 hts gL_unit_X6_unit rfl rfl rfl (by decide +kernel) ⟨Nat.le_of_ble_eq_true rfl, Nat.le_of_ble_eq_true rfl⟩) ⟨px_blind, va_recv hK hP (ci := 6) (q0 := 0) rfl hb0, px_start hP hK hD hXP hFc⟩ rfl rfl hl.1 rfl (lv_room (Nat.le_of_ble_eq_true rfl)) dL_unit_7 ⟨Nat.le_refl _, Nat.le_refl _⟩) hS hFc (fun ce q9 H1 locs hP1 hD1 hk1 hS hc1 hc2 hc3 => ?_)
  refine vx_catch (name := exI) (E := exI) hown [] ⟨0, 12, 15, 13⟩ [⟨0, 12, 19, 15⟩] htab (fun z hz => nomatch hz) rfl (by decide) (hts (.classLink RL 13 exI) (by decide +kernel)) (va_Nw.use rfl (hXP.2.2.2.1 exI (by decide +kernel))) hc1 hc2 hc3 ?_
  show W p l e rmLT_unit s m args below meth c H1 locs 1 6 _ (F0 m 15 ls [.ref q9])
  refine lv_astore (lv' := [(5, .ref q9), (0, .ref aU0), (1, .int v1), (2, .int v2), (3, .int v3), (4, .ref qo)]) hx hb dL_unit_15 hl (by decide) rfl (fun ls hl => ?_)
  refine lv_iconst (v := 1) hx hb dL_unit_17 (by decide) ?_
  have hD2 : va_D A wb := hD
  exact vx_ret (W.iret hx hb hr (fun t ht hW => ⟨⟨_, (), rfl, rfl, by rw [ht]; exact hP1, va_K.moved hW.alike hK, hD2⟩, hS.F ht⟩) (fun z hz => hS.2.2 z hz) dL_unit_18)
set_option maxHeartbeats 4000000 in
set_option maxRecDepth 100000 in
theorem law_unit_x2 (l : Launch) (D : va_G) (k : Nat → ClassId) (wb : va_W) (aU0 : Nat) (fs : List Value) (hb0 : wb[0]? = some (aU0, .inr (6, fs))) (qo : Nat) (sz : Nat) (v1 : Int32) (v2 : Int32) (v3 : Int32) (hM : ∀ sz : Nat, vx_Met l yX6_unit wsX6_unit rmTX6_unit (va_Pc [.ref aU0, .int v1, .int v2, .int v3] (PreX D k wb sz)) NQ (XQ D k wb sz exA) 1 6 (va_A wb sz)) : vx_Met l yL_unit wsL_unit rmLT_unit (va_Pc [.ref aU0, .int v1, .int v2, .int v3, .ref qo] (PreY D k wb sz)) (va_Qi (fun r9 (_ : Unit) => r9 = 2) (fun _ t => PostW D k (va_A wb sz) wb t) (va_A wb sz)) NX 1 6 (va_A wb sz) := by
  refine vx_ofWH (cc := cL_unit) (maxL := 6) (ret := (some .int)) (hh := [(0, 12, 15, 13), (0, 12, 19, 15)]) (by decide) rfl ?_
  intro p e s m args below meth c s₁ B hml hv
  obtain ⟨hav, ⟨⟨hsz, hP, hK, hD0⟩, hXP⟩, hXN⟩ := hv
  have hx := B.exec
  have hb := B.bytes
  have hr := B.returns
  have hts := atoms_spec (ws := wsL_unit) B.pre
  have hown : s.vm.findClass RL = some m.cls := findClass_of_methodNamed B.named
  have hlocks := B.notSynchronized
  subst hsz
  have hD := hD0.self (sz := s.heap.size)
  clear hD0
  obtain ⟨A, hAe⟩ : ∃ A, va_A wb s.heap.size = A := ⟨_, rfl⟩
  rw [hAe] at hD hXP
  have hA : ∀ q : Nat, s.heap.size ≤ q → A q := fun q h => by rw [← hAe]; exact Or.inr h
  have hS : va_S A s.heap s.heap [] := va_S.rf
  have hl := lv_entry ([.ref aU0, .int v1, .int v2, .int v3, .ref qo]) (n := 6) (Nat.le_of_ble_eq_true rfl)
  rw [show entryFrame m args 6 = entryFrame m ([.ref aU0, .int v1, .int v2, .int v3, .ref qo] : List Value).toArray 6 from by rw [hav], lg_entry_eq]
  generalize (lg_sl ([.ref aU0, .int v1, .int v2, .int v3, .ref qo]) ++ List.replicate (6 - (lg_sl ([.ref aU0, .int v1, .int v2, .int v3, .ref qo])).length) Slot.unset).toArray = ls at hl ⊢
  replace hl : lv_has ls 6 [(0, .ref aU0), (1, .int v1), (2, .int v2), (3, .int v3), (4, .ref qo)] := hl
  rw [hAe]
  show W p l e rmLT_unit s m args below meth c s.heap [] 0 0 _ (F0 m 0 ls [])
  have htab : c.exceptionTable.toList = [⟨0, 12, 15, 13⟩, ⟨0, 12, 19, 15⟩] := vx_table (x := yL_unit) B (hts (.codeWith yL_unit cL_unit 6 (some .int) [(0, 12, 15, 13), (0, 12, 19, 15)]) List.mem_cons_self)
  refine lv_aload hx hb dL_unit_0 (lv_at hl 4 rfl) ?_
  refine lv_iconst (v := 0) hx hb dL_unit_2 (by decide) ?_
  refine lv_aload_n hx hb dL_unit_3 rfl (lv_at hl 0 rfl) ?_
  refine lv_iload_n hx hb dL_unit_4 rfl (lv_at hl 1 rfl) ?_
  refine lv_iload_n hx hb dL_unit_5 rfl (lv_at hl 2 rfl) ?_
  refine lv_iload_n hx hb dL_unit_6 rfl (lv_at hl 3 rfl) ?_
  have hFc := vs_free hD hS hA
  refine xt_c (vx_runV (As := [.int v1, .int v2, .int v3]) (rest := [.int 0, .ref qo]) ⟨hx, hb, hml, hown, hts⟩ (hM s.heap.size) (cwV 3 hts gL_unit_X6_unit rfl rfl rfl (by decide +kernel) ⟨Nat.le_of_ble_eq_true rfl, Nat.le_of_ble_eq_true rfl⟩) ⟨px_blind, va_recv hK hP (ci := 6) (q0 := 0) rfl hb0, px_start hP hK hD hXP hFc⟩ rfl rfl hl.1 rfl (lv_room (Nat.le_of_ble_eq_true rfl)) dL_unit_7 ⟨Nat.le_refl _, Nat.le_refl _⟩) hS hFc (fun ce q9 H1 locs hP1 hD1 hk1 hS hc1 hc2 hc3 => ?_)
  refine vx_catch (name := exA) (E := exA) hown [⟨0, 12, 15, 13⟩] ⟨0, 12, 19, 15⟩ [] htab (List.forall_mem_cons.mpr ⟨Or.inr ⟨by decide, exI, hts (.classLink RL 13 exI) (by decide +kernel), hXN.1⟩, fun _ h => absurd h List.not_mem_nil⟩) rfl (by decide) (hts (.classLink RL 15 exA) (by decide +kernel)) (va_Nw.use rfl (hXP.2.2.2.1 exA (by decide +kernel))) hc1 hc2 hc3 ?_
  show W p l e rmLT_unit s m args below meth c H1 locs 1 6 _ (F0 m 19 ls [.ref q9])
  refine lv_astore (lv' := [(5, .ref q9), (0, .ref aU0), (1, .int v1), (2, .int v2), (3, .int v3), (4, .ref qo)]) hx hb dL_unit_19 hl (by decide) rfl (fun ls hl => ?_)
  refine lv_iconst (v := 2) hx hb dL_unit_21 (by decide) ?_
  have hD2 : va_D A wb := hD
  exact vx_ret (W.iret hx hb hr (fun t ht hW => ⟨⟨_, (), rfl, rfl, by rw [ht]; exact hP1, va_K.moved hW.alike hK, hD2⟩, hS.F ht⟩) (fun z hz => hS.2.2 z hz) dL_unit_22)
abbrev rmL_together : Room := { frames := 2, cells := 0, slots := 0, locals := 47 }
abbrev rmLT_together : Room := { frames := 8, cells := 1, slots := 6, locals := 163 }
set_option maxHeartbeats 4000000 in
set_option maxRecDepth 100000 in
theorem law_together_ok (l : Launch) (D : va_G) (k : Nat → ClassId) (wb : va_W) (wb' : (Nat → Nat) → va_W) (aU0 : Nat) (fs : List Value) (hb0 : wb[0]? = some (aU0, .inr (6, fs))) (qo : Nat) (f : Nat → Int64) (sz : Nat) (v1 : Int32) (v2 : Int32) (v3 : Int32) (r : Int32) (hM : ∀ sz : Nat, Met l yX6_together wsX6_together rmX6_together (va_Pc [.ref aU0, .int v1, .int v2, .int v3] (PreN D k wb sz)) (va_Qi (fun r9 (_ : Nat → Nat) => r9 = r) (fun u t => PostW D k (va_A wb sz) (wb' u) t) (va_A wb sz)) 0 0 (va_A wb sz)) : vx_Met l yL_together wsL_together rmL_together (va_Pc [.ref aU0, .int v1, .int v2, .int v3, .ref qo] (PreN D k (wo k qo f ++ wb) sz)) (va_Qi (fun r9 (_ : Nat → Nat) => r9 = 0) (fun u t => PostW D k (va_A (wo k qo f ++ wb) sz) (wo k qo (vp_updL f 0 (r.toInt64)) ++ wb' u) t) (va_A (wo k qo f ++ wb) sz)) NX 0 0 (va_A (wo k qo f ++ wb) sz) := by
  refine vx_ofWH (cc := cL_together) (maxL := 6) (ret := (some .int)) (hh := [(0, 12, 15, 13), (0, 12, 19, 15)]) (by decide) rfl ?_
  intro p e s m args below meth c s₁ B hml hv
  obtain ⟨hav, ⟨hsz, hP, hK, hD0⟩, hNW⟩ := hv
  have hx := B.exec
  have hb := B.bytes
  have hr := B.returns
  have hts := atoms_spec (ws := wsL_together) B.pre
  have hown : s.vm.findClass RL = some m.cls := findClass_of_methodNamed B.named
  have hlocks := B.notSynchronized
  subst hsz
  have hD := hD0.self (sz := s.heap.size)
  clear hD0
  obtain ⟨A, hAe⟩ : ∃ A, va_A (wo k qo f ++ wb) s.heap.size = A := ⟨_, rfl⟩
  rw [hAe] at hD
  have hA : ∀ q : Nat, s.heap.size ≤ q → A q := fun q h => by rw [← hAe]; exact Or.inr h
  have hS : va_S A s.heap s.heap [] := va_S.rf
  have hl := lv_entry ([.ref aU0, .int v1, .int v2, .int v3, .ref qo]) (n := 6) (Nat.le_of_ble_eq_true rfl)
  rw [show entryFrame m args 6 = entryFrame m ([.ref aU0, .int v1, .int v2, .int v3, .ref qo] : List Value).toArray 6 from by rw [hav], lg_entry_eq]
  generalize (lg_sl ([.ref aU0, .int v1, .int v2, .int v3, .ref qo]) ++ List.replicate (6 - (lg_sl ([.ref aU0, .int v1, .int v2, .int v3, .ref qo])).length) Slot.unset).toArray = ls at hl ⊢
  replace hl : lv_has ls 6 [(0, .ref aU0), (1, .int v1), (2, .int v2), (3, .int v3), (4, .ref qo)] := hl
  rw [hAe]
  show W p l e rmL_together s m args below meth c s.heap [] 0 0 _ (F0 m 0 ls [])
  refine lv_aload hx hb dL_together_0 (lv_at hl 4 rfl) ?_
  refine lv_iconst (v := 0) hx hb dL_together_2 (by decide) ?_
  refine lv_aload_n hx hb dL_together_3 rfl (lv_at hl 0 rfl) ?_
  refine lv_iload_n hx hb dL_together_4 rfl (lv_at hl 1 rfl) ?_
  refine lv_iload_n hx hb dL_together_5 rfl (lv_at hl 2 rfl) ?_
  refine lv_iload_n hx hb dL_together_6 rfl (lv_at hl 3 rfl) ?_
  have hFc := vs_free (vd_r hD) hS hA
  refine xc_iG (va_runV (As := [.int v1, .int v2, .int v3]) (rest := [.int 0, .ref qo]) ⟨hx, hb, hml, hown, hts⟩ (hM s.heap.size) (cwV 3 hts gL_together_X6_together rfl rfl rfl (by decide +kernel) ⟨Nat.le_of_ble_eq_true rfl, Nat.le_of_ble_eq_true rfl⟩) ⟨pn_blind, va_recv hK (vs_r hP) (ci := 6) (q0 := 0) rfl hb0, pn_start (vs_r hP) hK (vd_r hD) hNW⟩ rfl rfl hl.1 rfl (lv_room (Nat.le_of_ble_eq_true rfl)) dL_together_7 ⟨Nat.zero_le _, Nat.zero_le _⟩) hS hFc (fun u H1 locs hP1 hD1 hk1 hS => ?_)
  obtain ⟨hP, hD⟩ := vs_joinR hP hD hFc hk1 hP1 hD1
  clear hP1 hD1 hk1 hFc
  refine lv_i2l hx hb dL_together_10 rfl ?_
  refine va_last hx hb hK hP hD hS 0 1 rfl rfl (vp_in_nI (n := 0) (N := 1) (by decide) (by decide)) dL_together_11 (fun H locs hP hD hS => ?_)
  replace hP : va_P D vwCl (wo k qo (vp_updL f 0 (r.toInt64)) ++ wb' u) H := hP
  replace hD : va_D A (wo k qo (vp_updL f 0 (r.toInt64)) ++ wb' u) := hD
  refine lv_goto (tgt := 23) hx hb dL_together_12 (by decide) ?_
  refine lv_iconst (v := 0) hx hb dL_together_23 (by decide) ?_
  exact vx_ret (W.iret hx hb hr (fun t ht hW => ⟨⟨_, u, rfl, rfl, by rw [ht]; exact hP, va_K.moved hW.alike hK, hD⟩, hS.F ht⟩) hS.2.2 dL_together_24)
set_option maxHeartbeats 4000000 in
set_option maxRecDepth 100000 in
theorem law_together_x1 (l : Launch) (D : va_G) (k : Nat → ClassId) (wb : va_W) (aU0 : Nat) (fs : List Value) (hb0 : wb[0]? = some (aU0, .inr (6, fs))) (qo : Nat) (sz : Nat) (v1 : Int32) (v2 : Int32) (v3 : Int32) (hM : ∀ sz : Nat, vx_Met l yX6_together wsX6_together rmTX6_together (va_Pc [.ref aU0, .int v1, .int v2, .int v3] (PreX D k wb sz)) NQ (XQ D k wb sz exI) 1 6 (va_A wb sz)) : vx_Met l yL_together wsL_together rmLT_together (va_Pc [.ref aU0, .int v1, .int v2, .int v3, .ref qo] (PreY D k wb sz)) (va_Qi (fun r9 (_ : Unit) => r9 = 1) (fun _ t => PostW D k (va_A wb sz) wb t) (va_A wb sz)) NX 1 6 (va_A wb sz) := by
  refine vx_ofWH (cc := cL_together) (maxL := 6) (ret := (some .int)) (hh := [(0, 12, 15, 13), (0, 12, 19, 15)]) (by decide) rfl ?_
  intro p e s m args below meth c s₁ B hml hv
  obtain ⟨hav, ⟨⟨hsz, hP, hK, hD0⟩, hXP⟩, hXN⟩ := hv
  have hx := B.exec
  have hb := B.bytes
  have hr := B.returns
  have hts := atoms_spec (ws := wsL_together) B.pre
  have hown : s.vm.findClass RL = some m.cls := findClass_of_methodNamed B.named
  have hlocks := B.notSynchronized
  subst hsz
  have hD := hD0.self (sz := s.heap.size)
  clear hD0
  obtain ⟨A, hAe⟩ : ∃ A, va_A wb s.heap.size = A := ⟨_, rfl⟩
  rw [hAe] at hD hXP
  have hA : ∀ q : Nat, s.heap.size ≤ q → A q := fun q h => by rw [← hAe]; exact Or.inr h
  have hS : va_S A s.heap s.heap [] := va_S.rf
  have hl := lv_entry ([.ref aU0, .int v1, .int v2, .int v3, .ref qo]) (n := 6) (Nat.le_of_ble_eq_true rfl)
  rw [show entryFrame m args 6 = entryFrame m ([.ref aU0, .int v1, .int v2, .int v3, .ref qo] : List Value).toArray 6 from by rw [hav], lg_entry_eq]
  generalize (lg_sl ([.ref aU0, .int v1, .int v2, .int v3, .ref qo]) ++ List.replicate (6 - (lg_sl ([.ref aU0, .int v1, .int v2, .int v3, .ref qo])).length) Slot.unset).toArray = ls at hl ⊢
  replace hl : lv_has ls 6 [(0, .ref aU0), (1, .int v1), (2, .int v2), (3, .int v3), (4, .ref qo)] := hl
  rw [hAe]
  show W p l e rmLT_together s m args below meth c s.heap [] 0 0 _ (F0 m 0 ls [])
  have htab : c.exceptionTable.toList = [⟨0, 12, 15, 13⟩, ⟨0, 12, 19, 15⟩] := vx_table (x := yL_together) B (hts (.codeWith yL_together cL_together 6 (some .int) [(0, 12, 15, 13), (0, 12, 19, 15)]) List.mem_cons_self)
  refine lv_aload hx hb dL_together_0 (lv_at hl 4 rfl) ?_
  refine lv_iconst (v := 0) hx hb dL_together_2 (by decide) ?_
  refine lv_aload_n hx hb dL_together_3 rfl (lv_at hl 0 rfl) ?_
  refine lv_iload_n hx hb dL_together_4 rfl (lv_at hl 1 rfl) ?_
  refine lv_iload_n hx hb dL_together_5 rfl (lv_at hl 2 rfl) ?_
  refine lv_iload_n hx hb dL_together_6 rfl (lv_at hl 3 rfl) ?_
  have hFc := vs_free hD hS hA
  refine xt_c (vx_runV (As := [.int v1, .int v2, .int v3]) (rest := [.int 0, .ref qo]) ⟨hx, hb, hml, hown, hts⟩ (hM s.heap.size) (cwV 3 hts gL_together_X6_together rfl rfl rfl (by decide +kernel) ⟨Nat.le_of_ble_eq_true rfl, Nat.le_of_ble_eq_true rfl⟩) ⟨px_blind, va_recv hK hP (ci := 6) (q0 := 0) rfl hb0, px_start hP hK hD hXP hFc⟩ rfl rfl hl.1 rfl (lv_room (Nat.le_of_ble_eq_true rfl)) dL_together_7 ⟨Nat.le_refl _, Nat.le_refl _⟩) hS hFc (fun ce q9 H1 locs hP1 hD1 hk1 hS hc1 hc2 hc3 => ?_)
  refine vx_catch (name := exI) (E := exI) hown [] ⟨0, 12, 15, 13⟩ [⟨0, 12, 19, 15⟩] htab (fun z hz => nomatch hz) rfl (by decide) (hts (.classLink RL 13 exI) (by decide +kernel)) (va_Nw.use rfl (hXP.2.2.2.1 exI (by decide +kernel))) hc1 hc2 hc3 ?_
  show W p l e rmLT_together s m args below meth c H1 locs 1 6 _ (F0 m 15 ls [.ref q9])
  refine lv_astore (lv' := [(5, .ref q9), (0, .ref aU0), (1, .int v1), (2, .int v2), (3, .int v3), (4, .ref qo)]) hx hb dL_together_15 hl (by decide) rfl (fun ls hl => ?_)
  refine lv_iconst (v := 1) hx hb dL_together_17 (by decide) ?_
  have hD2 : va_D A wb := hD
  exact vx_ret (W.iret hx hb hr (fun t ht hW => ⟨⟨_, (), rfl, rfl, by rw [ht]; exact hP1, va_K.moved hW.alike hK, hD2⟩, hS.F ht⟩) (fun z hz => hS.2.2 z hz) dL_together_18)
set_option maxHeartbeats 4000000 in
set_option maxRecDepth 100000 in
theorem law_together_x2 (l : Launch) (D : va_G) (k : Nat → ClassId) (wb : va_W) (aU0 : Nat) (fs : List Value) (hb0 : wb[0]? = some (aU0, .inr (6, fs))) (qo : Nat) (sz : Nat) (v1 : Int32) (v2 : Int32) (v3 : Int32) (hM : ∀ sz : Nat, vx_Met l yX6_together wsX6_together rmTX6_together (va_Pc [.ref aU0, .int v1, .int v2, .int v3] (PreX D k wb sz)) NQ (XQ D k wb sz exA) 1 6 (va_A wb sz)) : vx_Met l yL_together wsL_together rmLT_together (va_Pc [.ref aU0, .int v1, .int v2, .int v3, .ref qo] (PreY D k wb sz)) (va_Qi (fun r9 (_ : Unit) => r9 = 2) (fun _ t => PostW D k (va_A wb sz) wb t) (va_A wb sz)) NX 1 6 (va_A wb sz) := by
  refine vx_ofWH (cc := cL_together) (maxL := 6) (ret := (some .int)) (hh := [(0, 12, 15, 13), (0, 12, 19, 15)]) (by decide) rfl ?_
  intro p e s m args below meth c s₁ B hml hv
  obtain ⟨hav, ⟨⟨hsz, hP, hK, hD0⟩, hXP⟩, hXN⟩ := hv
  have hx := B.exec
  have hb := B.bytes
  have hr := B.returns
  have hts := atoms_spec (ws := wsL_together) B.pre
  have hown : s.vm.findClass RL = some m.cls := findClass_of_methodNamed B.named
  have hlocks := B.notSynchronized
  subst hsz
  have hD := hD0.self (sz := s.heap.size)
  clear hD0
  obtain ⟨A, hAe⟩ : ∃ A, va_A wb s.heap.size = A := ⟨_, rfl⟩
  rw [hAe] at hD hXP
  have hA : ∀ q : Nat, s.heap.size ≤ q → A q := fun q h => by rw [← hAe]; exact Or.inr h
  have hS : va_S A s.heap s.heap [] := va_S.rf
  have hl := lv_entry ([.ref aU0, .int v1, .int v2, .int v3, .ref qo]) (n := 6) (Nat.le_of_ble_eq_true rfl)
  rw [show entryFrame m args 6 = entryFrame m ([.ref aU0, .int v1, .int v2, .int v3, .ref qo] : List Value).toArray 6 from by rw [hav], lg_entry_eq]
  generalize (lg_sl ([.ref aU0, .int v1, .int v2, .int v3, .ref qo]) ++ List.replicate (6 - (lg_sl ([.ref aU0, .int v1, .int v2, .int v3, .ref qo])).length) Slot.unset).toArray = ls at hl ⊢
  replace hl : lv_has ls 6 [(0, .ref aU0), (1, .int v1), (2, .int v2), (3, .int v3), (4, .ref qo)] := hl
  rw [hAe]
  show W p l e rmLT_together s m args below meth c s.heap [] 0 0 _ (F0 m 0 ls [])
  have htab : c.exceptionTable.toList = [⟨0, 12, 15, 13⟩, ⟨0, 12, 19, 15⟩] := vx_table (x := yL_together) B (hts (.codeWith yL_together cL_together 6 (some .int) [(0, 12, 15, 13), (0, 12, 19, 15)]) List.mem_cons_self)
  refine lv_aload hx hb dL_together_0 (lv_at hl 4 rfl) ?_
  refine lv_iconst (v := 0) hx hb dL_together_2 (by decide) ?_
  refine lv_aload_n hx hb dL_together_3 rfl (lv_at hl 0 rfl) ?_
  refine lv_iload_n hx hb dL_together_4 rfl (lv_at hl 1 rfl) ?_
  refine lv_iload_n hx hb dL_together_5 rfl (lv_at hl 2 rfl) ?_
  refine lv_iload_n hx hb dL_together_6 rfl (lv_at hl 3 rfl) ?_
  have hFc := vs_free hD hS hA
  refine xt_c (vx_runV (As := [.int v1, .int v2, .int v3]) (rest := [.int 0, .ref qo]) ⟨hx, hb, hml, hown, hts⟩ (hM s.heap.size) (cwV 3 hts gL_together_X6_together rfl rfl rfl (by decide +kernel) ⟨Nat.le_of_ble_eq_true rfl, Nat.le_of_ble_eq_true rfl⟩) ⟨px_blind, va_recv hK hP (ci := 6) (q0 := 0) rfl hb0, px_start hP hK hD hXP hFc⟩ rfl rfl hl.1 rfl (lv_room (Nat.le_of_ble_eq_true rfl)) dL_together_7 ⟨Nat.le_refl _, Nat.le_refl _⟩) hS hFc (fun ce q9 H1 locs hP1 hD1 hk1 hS hc1 hc2 hc3 => ?_)
  refine vx_catch (name := exA) (E := exA) hown [⟨0, 12, 15, 13⟩] ⟨0, 12, 19, 15⟩ [] htab (List.forall_mem_cons.mpr ⟨Or.inr ⟨by decide, exI, hts (.classLink RL 13 exI) (by decide +kernel), hXN.1⟩, fun _ h => absurd h List.not_mem_nil⟩) rfl (by decide) (hts (.classLink RL 15 exA) (by decide +kernel)) (va_Nw.use rfl (hXP.2.2.2.1 exA (by decide +kernel))) hc1 hc2 hc3 ?_
  show W p l e rmLT_together s m args below meth c H1 locs 1 6 _ (F0 m 19 ls [.ref q9])
  refine lv_astore (lv' := [(5, .ref q9), (0, .ref aU0), (1, .int v1), (2, .int v2), (3, .int v3), (4, .ref qo)]) hx hb dL_together_19 hl (by decide) rfl (fun ls hl => ?_)
  refine lv_iconst (v := 2) hx hb dL_together_21 (by decide) ?_
  have hD2 : va_D A wb := hD
  exact vx_ret (W.iret hx hb hr (fun t ht hW => ⟨⟨_, (), rfl, rfl, by rw [ht]; exact hP1, va_K.moved hW.alike hK, hD2⟩, hS.F ht⟩) (fun z hz => hS.2.2 z hz) dL_together_22)
abbrev rmL_input : Room := { frames := 2, cells := 0, slots := 0, locals := 44 }
abbrev rmLT_input : Room := { frames := 8, cells := 1, slots := 6, locals := 162 }
set_option maxHeartbeats 4000000 in
set_option maxRecDepth 100000 in
theorem law_input_ok (l : Launch) (D : va_G) (k : Nat → ClassId) (wb : va_W) (wb' : (Nat → Nat) → va_W) (aU0 : Nat) (fs : List Value) (hb0 : wb[0]? = some (aU0, .inr (6, fs))) (qo : Nat) (f : Nat → Int64) (sz : Nat) (v1 : Int32) (v2 : Int32) (r : Int32) (hM : ∀ sz : Nat, Met l yX6_input wsX6_input rmX6_input (va_Pc [.ref aU0, .int v1, .int v2] (PreN D k wb sz)) (va_Qi (fun r9 (_ : Nat → Nat) => r9 = r) (fun u t => PostW D k (va_A wb sz) (wb' u) t) (va_A wb sz)) 0 0 (va_A wb sz)) : vx_Met l yL_input wsL_input rmL_input (va_Pc [.ref aU0, .int v1, .int v2, .ref qo] (PreN D k (wo k qo f ++ wb) sz)) (va_Qi (fun r9 (_ : Nat → Nat) => r9 = 0) (fun u t => PostW D k (va_A (wo k qo f ++ wb) sz) (wo k qo (vp_updL f 0 (r.toInt64)) ++ wb' u) t) (va_A (wo k qo f ++ wb) sz)) NX 0 0 (va_A (wo k qo f ++ wb) sz) := by
  refine vx_ofWH (cc := cL_input) (maxL := 5) (ret := (some .int)) (hh := [(0, 10, 13, 13), (0, 10, 17, 15)]) (by decide) rfl ?_
  intro p e s m args below meth c s₁ B hml hv
  obtain ⟨hav, ⟨hsz, hP, hK, hD0⟩, hNW⟩ := hv
  have hx := B.exec
  have hb := B.bytes
  have hr := B.returns
  have hts := atoms_spec (ws := wsL_input) B.pre
  have hown : s.vm.findClass RL = some m.cls := findClass_of_methodNamed B.named
  have hlocks := B.notSynchronized
  subst hsz
  have hD := hD0.self (sz := s.heap.size)
  clear hD0
  obtain ⟨A, hAe⟩ : ∃ A, va_A (wo k qo f ++ wb) s.heap.size = A := ⟨_, rfl⟩
  rw [hAe] at hD
  have hA : ∀ q : Nat, s.heap.size ≤ q → A q := fun q h => by rw [← hAe]; exact Or.inr h
  have hS : va_S A s.heap s.heap [] := va_S.rf
  have hl := lv_entry ([.ref aU0, .int v1, .int v2, .ref qo]) (n := 5) (Nat.le_of_ble_eq_true rfl)
  rw [show entryFrame m args 5 = entryFrame m ([.ref aU0, .int v1, .int v2, .ref qo] : List Value).toArray 5 from by rw [hav], lg_entry_eq]
  generalize (lg_sl ([.ref aU0, .int v1, .int v2, .ref qo]) ++ List.replicate (5 - (lg_sl ([.ref aU0, .int v1, .int v2, .ref qo])).length) Slot.unset).toArray = ls at hl ⊢
  replace hl : lv_has ls 5 [(0, .ref aU0), (1, .int v1), (2, .int v2), (3, .ref qo)] := hl
  rw [hAe]
  show W p l e rmL_input s m args below meth c s.heap [] 0 0 _ (F0 m 0 ls [])
  refine lv_aload_n hx hb dL_input_0 rfl (lv_at hl 3 rfl) ?_
  refine lv_iconst (v := 0) hx hb dL_input_1 (by decide) ?_
  refine lv_aload_n hx hb dL_input_2 rfl (lv_at hl 0 rfl) ?_
  refine lv_iload_n hx hb dL_input_3 rfl (lv_at hl 1 rfl) ?_
  refine lv_iload_n hx hb dL_input_4 rfl (lv_at hl 2 rfl) ?_
  have hFc := vs_free (vd_r hD) hS hA
  refine xc_iG (va_runV (As := [.int v1, .int v2]) (rest := [.int 0, .ref qo]) ⟨hx, hb, hml, hown, hts⟩ (hM s.heap.size) (cwV 2 hts gL_input_X6_input rfl rfl rfl (by decide +kernel) ⟨Nat.le_of_ble_eq_true rfl, Nat.le_of_ble_eq_true rfl⟩) ⟨pn_blind, va_recv hK (vs_r hP) (ci := 6) (q0 := 0) rfl hb0, pn_start (vs_r hP) hK (vd_r hD) hNW⟩ rfl rfl hl.1 rfl (lv_room (Nat.le_of_ble_eq_true rfl)) dL_input_5 ⟨Nat.zero_le _, Nat.zero_le _⟩) hS hFc (fun u H1 locs hP1 hD1 hk1 hS => ?_)
  obtain ⟨hP, hD⟩ := vs_joinR hP hD hFc hk1 hP1 hD1
  clear hP1 hD1 hk1 hFc
  refine lv_i2l hx hb dL_input_8 rfl ?_
  refine va_last hx hb hK hP hD hS 0 1 rfl rfl (vp_in_nI (n := 0) (N := 1) (by decide) (by decide)) dL_input_9 (fun H locs hP hD hS => ?_)
  replace hP : va_P D vwCl (wo k qo (vp_updL f 0 (r.toInt64)) ++ wb' u) H := hP
  replace hD : va_D A (wo k qo (vp_updL f 0 (r.toInt64)) ++ wb' u) := hD
  refine lv_goto (tgt := 21) hx hb dL_input_10 (by decide) ?_
  refine lv_iconst (v := 0) hx hb dL_input_21 (by decide) ?_
  exact vx_ret (W.iret hx hb hr (fun t ht hW => ⟨⟨_, u, rfl, rfl, by rw [ht]; exact hP, va_K.moved hW.alike hK, hD⟩, hS.F ht⟩) hS.2.2 dL_input_22)
set_option maxHeartbeats 4000000 in
set_option maxRecDepth 100000 in
theorem law_input_x1 (l : Launch) (D : va_G) (k : Nat → ClassId) (wb : va_W) (aU0 : Nat) (fs : List Value) (hb0 : wb[0]? = some (aU0, .inr (6, fs))) (qo : Nat) (sz : Nat) (v1 : Int32) (v2 : Int32) (hM : ∀ sz : Nat, vx_Met l yX6_input wsX6_input rmTX6_input (va_Pc [.ref aU0, .int v1, .int v2] (PreX D k wb sz)) NQ (XQ D k wb sz exI) 1 6 (va_A wb sz)) : vx_Met l yL_input wsL_input rmLT_input (va_Pc [.ref aU0, .int v1, .int v2, .ref qo] (PreY D k wb sz)) (va_Qi (fun r9 (_ : Unit) => r9 = 1) (fun _ t => PostW D k (va_A wb sz) wb t) (va_A wb sz)) NX 1 6 (va_A wb sz) := by
  refine vx_ofWH (cc := cL_input) (maxL := 5) (ret := (some .int)) (hh := [(0, 10, 13, 13), (0, 10, 17, 15)]) (by decide) rfl ?_
  intro p e s m args below meth c s₁ B hml hv
  obtain ⟨hav, ⟨⟨hsz, hP, hK, hD0⟩, hXP⟩, hXN⟩ := hv
  have hx := B.exec
  have hb := B.bytes
  have hr := B.returns
  have hts := atoms_spec (ws := wsL_input) B.pre
  have hown : s.vm.findClass RL = some m.cls := findClass_of_methodNamed B.named
  have hlocks := B.notSynchronized
  subst hsz
  have hD := hD0.self (sz := s.heap.size)
  clear hD0
  obtain ⟨A, hAe⟩ : ∃ A, va_A wb s.heap.size = A := ⟨_, rfl⟩
  rw [hAe] at hD hXP
  have hA : ∀ q : Nat, s.heap.size ≤ q → A q := fun q h => by rw [← hAe]; exact Or.inr h
  have hS : va_S A s.heap s.heap [] := va_S.rf
  have hl := lv_entry ([.ref aU0, .int v1, .int v2, .ref qo]) (n := 5) (Nat.le_of_ble_eq_true rfl)
  rw [show entryFrame m args 5 = entryFrame m ([.ref aU0, .int v1, .int v2, .ref qo] : List Value).toArray 5 from by rw [hav], lg_entry_eq]
  generalize (lg_sl ([.ref aU0, .int v1, .int v2, .ref qo]) ++ List.replicate (5 - (lg_sl ([.ref aU0, .int v1, .int v2, .ref qo])).length) Slot.unset).toArray = ls at hl ⊢
  replace hl : lv_has ls 5 [(0, .ref aU0), (1, .int v1), (2, .int v2), (3, .ref qo)] := hl
  rw [hAe]
  show W p l e rmLT_input s m args below meth c s.heap [] 0 0 _ (F0 m 0 ls [])
  have htab : c.exceptionTable.toList = [⟨0, 10, 13, 13⟩, ⟨0, 10, 17, 15⟩] := vx_table (x := yL_input) B (hts (.codeWith yL_input cL_input 5 (some .int) [(0, 10, 13, 13), (0, 10, 17, 15)]) List.mem_cons_self)
  refine lv_aload_n hx hb dL_input_0 rfl (lv_at hl 3 rfl) ?_
  refine lv_iconst (v := 0) hx hb dL_input_1 (by decide) ?_
  refine lv_aload_n hx hb dL_input_2 rfl (lv_at hl 0 rfl) ?_
  refine lv_iload_n hx hb dL_input_3 rfl (lv_at hl 1 rfl) ?_
  refine lv_iload_n hx hb dL_input_4 rfl (lv_at hl 2 rfl) ?_
  have hFc := vs_free hD hS hA
  refine xt_c (vx_runV (As := [.int v1, .int v2]) (rest := [.int 0, .ref qo]) ⟨hx, hb, hml, hown, hts⟩ (hM s.heap.size) (cwV 2 hts gL_input_X6_input rfl rfl rfl (by decide +kernel) ⟨Nat.le_of_ble_eq_true rfl, Nat.le_of_ble_eq_true rfl⟩) ⟨px_blind, va_recv hK hP (ci := 6) (q0 := 0) rfl hb0, px_start hP hK hD hXP hFc⟩ rfl rfl hl.1 rfl (lv_room (Nat.le_of_ble_eq_true rfl)) dL_input_5 ⟨Nat.le_refl _, Nat.le_refl _⟩) hS hFc (fun ce q9 H1 locs hP1 hD1 hk1 hS hc1 hc2 hc3 => ?_)
  refine vx_catch (name := exI) (E := exI) hown [] ⟨0, 10, 13, 13⟩ [⟨0, 10, 17, 15⟩] htab (fun z hz => nomatch hz) rfl (by decide) (hts (.classLink RL 13 exI) (by decide +kernel)) (va_Nw.use rfl (hXP.2.2.2.1 exI (by decide +kernel))) hc1 hc2 hc3 ?_
  show W p l e rmLT_input s m args below meth c H1 locs 1 6 _ (F0 m 13 ls [.ref q9])
  refine lv_astore (lv' := [(4, .ref q9), (0, .ref aU0), (1, .int v1), (2, .int v2), (3, .ref qo)]) hx hb dL_input_13 hl (by decide) rfl (fun ls hl => ?_)
  refine lv_iconst (v := 1) hx hb dL_input_15 (by decide) ?_
  have hD2 : va_D A wb := hD
  exact vx_ret (W.iret hx hb hr (fun t ht hW => ⟨⟨_, (), rfl, rfl, by rw [ht]; exact hP1, va_K.moved hW.alike hK, hD2⟩, hS.F ht⟩) (fun z hz => hS.2.2 z hz) dL_input_16)
set_option maxHeartbeats 4000000 in
set_option maxRecDepth 100000 in
theorem law_input_x2 (l : Launch) (D : va_G) (k : Nat → ClassId) (wb : va_W) (aU0 : Nat) (fs : List Value) (hb0 : wb[0]? = some (aU0, .inr (6, fs))) (qo : Nat) (sz : Nat) (v1 : Int32) (v2 : Int32) (hM : ∀ sz : Nat, vx_Met l yX6_input wsX6_input rmTX6_input (va_Pc [.ref aU0, .int v1, .int v2] (PreX D k wb sz)) NQ (XQ D k wb sz exA) 1 6 (va_A wb sz)) : vx_Met l yL_input wsL_input rmLT_input (va_Pc [.ref aU0, .int v1, .int v2, .ref qo] (PreY D k wb sz)) (va_Qi (fun r9 (_ : Unit) => r9 = 2) (fun _ t => PostW D k (va_A wb sz) wb t) (va_A wb sz)) NX 1 6 (va_A wb sz) := by
  refine vx_ofWH (cc := cL_input) (maxL := 5) (ret := (some .int)) (hh := [(0, 10, 13, 13), (0, 10, 17, 15)]) (by decide) rfl ?_
  intro p e s m args below meth c s₁ B hml hv
  obtain ⟨hav, ⟨⟨hsz, hP, hK, hD0⟩, hXP⟩, hXN⟩ := hv
  have hx := B.exec
  have hb := B.bytes
  have hr := B.returns
  have hts := atoms_spec (ws := wsL_input) B.pre
  have hown : s.vm.findClass RL = some m.cls := findClass_of_methodNamed B.named
  have hlocks := B.notSynchronized
  subst hsz
  have hD := hD0.self (sz := s.heap.size)
  clear hD0
  obtain ⟨A, hAe⟩ : ∃ A, va_A wb s.heap.size = A := ⟨_, rfl⟩
  rw [hAe] at hD hXP
  have hA : ∀ q : Nat, s.heap.size ≤ q → A q := fun q h => by rw [← hAe]; exact Or.inr h
  have hS : va_S A s.heap s.heap [] := va_S.rf
  have hl := lv_entry ([.ref aU0, .int v1, .int v2, .ref qo]) (n := 5) (Nat.le_of_ble_eq_true rfl)
  rw [show entryFrame m args 5 = entryFrame m ([.ref aU0, .int v1, .int v2, .ref qo] : List Value).toArray 5 from by rw [hav], lg_entry_eq]
  generalize (lg_sl ([.ref aU0, .int v1, .int v2, .ref qo]) ++ List.replicate (5 - (lg_sl ([.ref aU0, .int v1, .int v2, .ref qo])).length) Slot.unset).toArray = ls at hl ⊢
  replace hl : lv_has ls 5 [(0, .ref aU0), (1, .int v1), (2, .int v2), (3, .ref qo)] := hl
  rw [hAe]
  show W p l e rmLT_input s m args below meth c s.heap [] 0 0 _ (F0 m 0 ls [])
  have htab : c.exceptionTable.toList = [⟨0, 10, 13, 13⟩, ⟨0, 10, 17, 15⟩] := vx_table (x := yL_input) B (hts (.codeWith yL_input cL_input 5 (some .int) [(0, 10, 13, 13), (0, 10, 17, 15)]) List.mem_cons_self)
  refine lv_aload_n hx hb dL_input_0 rfl (lv_at hl 3 rfl) ?_
  refine lv_iconst (v := 0) hx hb dL_input_1 (by decide) ?_
  refine lv_aload_n hx hb dL_input_2 rfl (lv_at hl 0 rfl) ?_
  refine lv_iload_n hx hb dL_input_3 rfl (lv_at hl 1 rfl) ?_
  refine lv_iload_n hx hb dL_input_4 rfl (lv_at hl 2 rfl) ?_
  have hFc := vs_free hD hS hA
  refine xt_c (vx_runV (As := [.int v1, .int v2]) (rest := [.int 0, .ref qo]) ⟨hx, hb, hml, hown, hts⟩ (hM s.heap.size) (cwV 2 hts gL_input_X6_input rfl rfl rfl (by decide +kernel) ⟨Nat.le_of_ble_eq_true rfl, Nat.le_of_ble_eq_true rfl⟩) ⟨px_blind, va_recv hK hP (ci := 6) (q0 := 0) rfl hb0, px_start hP hK hD hXP hFc⟩ rfl rfl hl.1 rfl (lv_room (Nat.le_of_ble_eq_true rfl)) dL_input_5 ⟨Nat.le_refl _, Nat.le_refl _⟩) hS hFc (fun ce q9 H1 locs hP1 hD1 hk1 hS hc1 hc2 hc3 => ?_)
  refine vx_catch (name := exA) (E := exA) hown [⟨0, 10, 13, 13⟩] ⟨0, 10, 17, 15⟩ [] htab (List.forall_mem_cons.mpr ⟨Or.inr ⟨by decide, exI, hts (.classLink RL 13 exI) (by decide +kernel), hXN.1⟩, fun _ h => absurd h List.not_mem_nil⟩) rfl (by decide) (hts (.classLink RL 15 exA) (by decide +kernel)) (va_Nw.use rfl (hXP.2.2.2.1 exA (by decide +kernel))) hc1 hc2 hc3 ?_
  show W p l e rmLT_input s m args below meth c H1 locs 1 6 _ (F0 m 17 ls [.ref q9])
  refine lv_astore (lv' := [(4, .ref q9), (0, .ref aU0), (1, .int v1), (2, .int v2), (3, .ref qo)]) hx hb dL_input_17 hl (by decide) rfl (fun ls hl => ?_)
  refine lv_iconst (v := 2) hx hb dL_input_19 (by decide) ?_
  have hD2 : va_D A wb := hD
  exact vx_ret (W.iret hx hb hr (fun t ht hW => ⟨⟨_, (), rfl, rfl, by rw [ht]; exact hP1, va_K.moved hW.alike hK, hD2⟩, hS.F ht⟩) (fun z hz => hS.2.2 z hz) dL_input_20)
abbrev rmL_type : Room := { frames := 3, cells := 0, slots := 0, locals := 69 }
abbrev rmLT_type : Room := { frames := 9, cells := 1, slots := 6, locals := 423 }
set_option maxHeartbeats 4000000 in
set_option maxRecDepth 100000 in
theorem law_type_ok (l : Launch) (D : va_G) (k : Nat → ClassId) (wb : va_W) (wb' : (Nat → Nat) → va_W) (aU0 : Nat) (fs : List Value) (hb0 : wb[0]? = some (aU0, .inr (6, fs))) (qo : Nat) (f : Nat → Int64) (sz : Nat) (v1 : Int64) (r : Int32) (hM : ∀ sz : Nat, Met l yX6_type wsX6_type rmX6_type (va_Pc [.ref aU0, .long v1] (PreN D k wb sz)) (va_Qi (fun r9 (_ : Nat → Nat) => r9 = r) (fun u t => PostW D k (va_A wb sz) (wb' u) t) (va_A wb sz)) 0 0 (va_A wb sz)) : vx_Met l yL_type wsL_type rmL_type (va_Pc [.ref aU0, .long v1, .ref qo] (PreN D k (wo k qo f ++ wb) sz)) (va_Qi (fun r9 (_ : Nat → Nat) => r9 = 0) (fun u t => PostW D k (va_A (wo k qo f ++ wb) sz) (wo k qo (vp_updL f 0 (r.toInt64)) ++ wb' u) t) (va_A (wo k qo f ++ wb) sz)) NX 0 0 (va_A (wo k qo f ++ wb) sz) := by
  refine vx_ofWH (cc := cL_type) (maxL := 5) (ret := (some .int)) (hh := [(0, 9, 12, 15), (0, 9, 16, 21)]) (by decide) rfl ?_
  intro p e s m args below meth c s₁ B hml hv
  obtain ⟨hav, ⟨hsz, hP, hK, hD0⟩, hNW⟩ := hv
  have hx := B.exec
  have hb := B.bytes
  have hr := B.returns
  have hts := atoms_spec (ws := wsL_type) B.pre
  have hown : s.vm.findClass RL = some m.cls := findClass_of_methodNamed B.named
  have hlocks := B.notSynchronized
  subst hsz
  have hD := hD0.self (sz := s.heap.size)
  clear hD0
  obtain ⟨A, hAe⟩ : ∃ A, va_A (wo k qo f ++ wb) s.heap.size = A := ⟨_, rfl⟩
  rw [hAe] at hD
  have hA : ∀ q : Nat, s.heap.size ≤ q → A q := fun q h => by rw [← hAe]; exact Or.inr h
  have hS : va_S A s.heap s.heap [] := va_S.rf
  have hl := lv_entry ([.ref aU0, .long v1, .ref qo]) (n := 5) (Nat.le_of_ble_eq_true rfl)
  rw [show entryFrame m args 5 = entryFrame m ([.ref aU0, .long v1, .ref qo] : List Value).toArray 5 from by rw [hav], lg_entry_eq]
  generalize (lg_sl ([.ref aU0, .long v1, .ref qo]) ++ List.replicate (5 - (lg_sl ([.ref aU0, .long v1, .ref qo])).length) Slot.unset).toArray = ls at hl ⊢
  replace hl : lv_has ls 5 [(0, .ref aU0), (1, .long v1), (3, .ref qo)] := hl
  rw [hAe]
  show W p l e rmL_type s m args below meth c s.heap [] 0 0 _ (F0 m 0 ls [])
  refine lv_aload_n hx hb dL_type_0 rfl (lv_at hl 2 rfl) ?_
  refine lv_iconst (v := 0) hx hb dL_type_1 (by decide) ?_
  refine lv_aload_n hx hb dL_type_2 rfl (lv_at hl 0 rfl) ?_
  refine lv_lload_n hx hb dL_type_3 rfl (lv_at hl 1 rfl) ?_
  have hFc := vs_free (vd_r hD) hS hA
  refine xc_iG (va_runV (As := [.long v1]) (rest := [.int 0, .ref qo]) ⟨hx, hb, hml, hown, hts⟩ (hM s.heap.size) (cwV 1 hts gL_type_X6_type rfl rfl rfl (by decide +kernel) ⟨Nat.le_of_ble_eq_true rfl, Nat.le_of_ble_eq_true rfl⟩) ⟨pn_blind, va_recv hK (vs_r hP) (ci := 6) (q0 := 0) rfl hb0, pn_start (vs_r hP) hK (vd_r hD) hNW⟩ rfl rfl hl.1 rfl (lv_room (Nat.le_of_ble_eq_true rfl)) dL_type_4 ⟨Nat.zero_le _, Nat.zero_le _⟩) hS hFc (fun u H1 locs hP1 hD1 hk1 hS => ?_)
  obtain ⟨hP, hD⟩ := vs_joinR hP hD hFc hk1 hP1 hD1
  clear hP1 hD1 hk1 hFc
  refine lv_i2l hx hb dL_type_7 rfl ?_
  refine va_last hx hb hK hP hD hS 0 1 rfl rfl (vp_in_nI (n := 0) (N := 1) (by decide) (by decide)) dL_type_8 (fun H locs hP hD hS => ?_)
  replace hP : va_P D vwCl (wo k qo (vp_updL f 0 (r.toInt64)) ++ wb' u) H := hP
  replace hD : va_D A (wo k qo (vp_updL f 0 (r.toInt64)) ++ wb' u) := hD
  refine lv_goto (tgt := 20) hx hb dL_type_9 (by decide) ?_
  refine lv_iconst (v := 0) hx hb dL_type_20 (by decide) ?_
  exact vx_ret (W.iret hx hb hr (fun t ht hW => ⟨⟨_, u, rfl, rfl, by rw [ht]; exact hP, va_K.moved hW.alike hK, hD⟩, hS.F ht⟩) hS.2.2 dL_type_21)
set_option maxHeartbeats 4000000 in
set_option maxRecDepth 100000 in
theorem law_type_x1 (l : Launch) (D : va_G) (k : Nat → ClassId) (wb : va_W) (aU0 : Nat) (fs : List Value) (hb0 : wb[0]? = some (aU0, .inr (6, fs))) (qo : Nat) (sz : Nat) (v1 : Int64) (hM : ∀ sz : Nat, vx_Met l yX6_type wsX6_type rmTX6_type (va_Pc [.ref aU0, .long v1] (PreX D k wb sz)) NQ (XQ D k wb sz exA) 1 6 (va_A wb sz)) : vx_Met l yL_type wsL_type rmLT_type (va_Pc [.ref aU0, .long v1, .ref qo] (PreY D k wb sz)) (va_Qi (fun r9 (_ : Unit) => r9 = 1) (fun _ t => PostW D k (va_A wb sz) wb t) (va_A wb sz)) NX 1 6 (va_A wb sz) := by
  refine vx_ofWH (cc := cL_type) (maxL := 5) (ret := (some .int)) (hh := [(0, 9, 12, 15), (0, 9, 16, 21)]) (by decide) rfl ?_
  intro p e s m args below meth c s₁ B hml hv
  obtain ⟨hav, ⟨⟨hsz, hP, hK, hD0⟩, hXP⟩, hXN⟩ := hv
  have hx := B.exec
  have hb := B.bytes
  have hr := B.returns
  have hts := atoms_spec (ws := wsL_type) B.pre
  have hown : s.vm.findClass RL = some m.cls := findClass_of_methodNamed B.named
  have hlocks := B.notSynchronized
  subst hsz
  have hD := hD0.self (sz := s.heap.size)
  clear hD0
  obtain ⟨A, hAe⟩ : ∃ A, va_A wb s.heap.size = A := ⟨_, rfl⟩
  rw [hAe] at hD hXP
  have hA : ∀ q : Nat, s.heap.size ≤ q → A q := fun q h => by rw [← hAe]; exact Or.inr h
  have hS : va_S A s.heap s.heap [] := va_S.rf
  have hl := lv_entry ([.ref aU0, .long v1, .ref qo]) (n := 5) (Nat.le_of_ble_eq_true rfl)
  rw [show entryFrame m args 5 = entryFrame m ([.ref aU0, .long v1, .ref qo] : List Value).toArray 5 from by rw [hav], lg_entry_eq]
  generalize (lg_sl ([.ref aU0, .long v1, .ref qo]) ++ List.replicate (5 - (lg_sl ([.ref aU0, .long v1, .ref qo])).length) Slot.unset).toArray = ls at hl ⊢
  replace hl : lv_has ls 5 [(0, .ref aU0), (1, .long v1), (3, .ref qo)] := hl
  rw [hAe]
  show W p l e rmLT_type s m args below meth c s.heap [] 0 0 _ (F0 m 0 ls [])
  have htab : c.exceptionTable.toList = [⟨0, 9, 12, 15⟩, ⟨0, 9, 16, 21⟩] := vx_table (x := yL_type) B (hts (.codeWith yL_type cL_type 5 (some .int) [(0, 9, 12, 15), (0, 9, 16, 21)]) List.mem_cons_self)
  refine lv_aload_n hx hb dL_type_0 rfl (lv_at hl 2 rfl) ?_
  refine lv_iconst (v := 0) hx hb dL_type_1 (by decide) ?_
  refine lv_aload_n hx hb dL_type_2 rfl (lv_at hl 0 rfl) ?_
  refine lv_lload_n hx hb dL_type_3 rfl (lv_at hl 1 rfl) ?_
  have hFc := vs_free hD hS hA
  refine xt_c (vx_runV (As := [.long v1]) (rest := [.int 0, .ref qo]) ⟨hx, hb, hml, hown, hts⟩ (hM s.heap.size) (cwV 1 hts gL_type_X6_type rfl rfl rfl (by decide +kernel) ⟨Nat.le_of_ble_eq_true rfl, Nat.le_of_ble_eq_true rfl⟩) ⟨px_blind, va_recv hK hP (ci := 6) (q0 := 0) rfl hb0, px_start hP hK hD hXP hFc⟩ rfl rfl hl.1 rfl (lv_room (Nat.le_of_ble_eq_true rfl)) dL_type_4 ⟨Nat.le_refl _, Nat.le_refl _⟩) hS hFc (fun ce q9 H1 locs hP1 hD1 hk1 hS hc1 hc2 hc3 => ?_)
  refine vx_catch (name := exA) (E := exA) hown [] ⟨0, 9, 12, 15⟩ [⟨0, 9, 16, 21⟩] htab (fun z hz => nomatch hz) rfl (by decide) (hts (.classLink RL 15 exA) (by decide +kernel)) (va_Nw.use rfl (hXP.2.2.2.1 exA (by decide +kernel))) hc1 hc2 hc3 ?_
  show W p l e rmLT_type s m args below meth c H1 locs 1 6 _ (F0 m 12 ls [.ref q9])
  refine lv_astore (lv' := [(4, .ref q9), (0, .ref aU0), (1, .long v1), (3, .ref qo)]) hx hb dL_type_12 hl (by decide) rfl (fun ls hl => ?_)
  refine lv_iconst (v := 1) hx hb dL_type_14 (by decide) ?_
  have hD2 : va_D A wb := hD
  exact vx_ret (W.iret hx hb hr (fun t ht hW => ⟨⟨_, (), rfl, rfl, by rw [ht]; exact hP1, va_K.moved hW.alike hK, hD2⟩, hS.F ht⟩) (fun z hz => hS.2.2 z hz) dL_type_15)
set_option maxHeartbeats 4000000 in
set_option maxRecDepth 100000 in
theorem law_type_x2 (l : Launch) (D : va_G) (k : Nat → ClassId) (wb : va_W) (aU0 : Nat) (fs : List Value) (hb0 : wb[0]? = some (aU0, .inr (6, fs))) (qo : Nat) (sz : Nat) (v1 : Int64) (hM : ∀ sz : Nat, vx_Met l yX6_type wsX6_type rmTX6_type (va_Pc [.ref aU0, .long v1] (PreX D k wb sz)) NQ (XQ D k wb sz exS) 1 6 (va_A wb sz)) : vx_Met l yL_type wsL_type rmLT_type (va_Pc [.ref aU0, .long v1, .ref qo] (PreY D k wb sz)) (va_Qi (fun r9 (_ : Unit) => r9 = 2) (fun _ t => PostW D k (va_A wb sz) wb t) (va_A wb sz)) NX 1 6 (va_A wb sz) := by
  refine vx_ofWH (cc := cL_type) (maxL := 5) (ret := (some .int)) (hh := [(0, 9, 12, 15), (0, 9, 16, 21)]) (by decide) rfl ?_
  intro p e s m args below meth c s₁ B hml hv
  obtain ⟨hav, ⟨⟨hsz, hP, hK, hD0⟩, hXP⟩, hXN⟩ := hv
  have hx := B.exec
  have hb := B.bytes
  have hr := B.returns
  have hts := atoms_spec (ws := wsL_type) B.pre
  have hown : s.vm.findClass RL = some m.cls := findClass_of_methodNamed B.named
  have hlocks := B.notSynchronized
  subst hsz
  have hD := hD0.self (sz := s.heap.size)
  clear hD0
  obtain ⟨A, hAe⟩ : ∃ A, va_A wb s.heap.size = A := ⟨_, rfl⟩
  rw [hAe] at hD hXP
  have hA : ∀ q : Nat, s.heap.size ≤ q → A q := fun q h => by rw [← hAe]; exact Or.inr h
  have hS : va_S A s.heap s.heap [] := va_S.rf
  have hl := lv_entry ([.ref aU0, .long v1, .ref qo]) (n := 5) (Nat.le_of_ble_eq_true rfl)
  rw [show entryFrame m args 5 = entryFrame m ([.ref aU0, .long v1, .ref qo] : List Value).toArray 5 from by rw [hav], lg_entry_eq]
  generalize (lg_sl ([.ref aU0, .long v1, .ref qo]) ++ List.replicate (5 - (lg_sl ([.ref aU0, .long v1, .ref qo])).length) Slot.unset).toArray = ls at hl ⊢
  replace hl : lv_has ls 5 [(0, .ref aU0), (1, .long v1), (3, .ref qo)] := hl
  rw [hAe]
  show W p l e rmLT_type s m args below meth c s.heap [] 0 0 _ (F0 m 0 ls [])
  have htab : c.exceptionTable.toList = [⟨0, 9, 12, 15⟩, ⟨0, 9, 16, 21⟩] := vx_table (x := yL_type) B (hts (.codeWith yL_type cL_type 5 (some .int) [(0, 9, 12, 15), (0, 9, 16, 21)]) List.mem_cons_self)
  refine lv_aload_n hx hb dL_type_0 rfl (lv_at hl 2 rfl) ?_
  refine lv_iconst (v := 0) hx hb dL_type_1 (by decide) ?_
  refine lv_aload_n hx hb dL_type_2 rfl (lv_at hl 0 rfl) ?_
  refine lv_lload_n hx hb dL_type_3 rfl (lv_at hl 1 rfl) ?_
  have hFc := vs_free hD hS hA
  refine xt_c (vx_runV (As := [.long v1]) (rest := [.int 0, .ref qo]) ⟨hx, hb, hml, hown, hts⟩ (hM s.heap.size) (cwV 1 hts gL_type_X6_type rfl rfl rfl (by decide +kernel) ⟨Nat.le_of_ble_eq_true rfl, Nat.le_of_ble_eq_true rfl⟩) ⟨px_blind, va_recv hK hP (ci := 6) (q0 := 0) rfl hb0, px_start hP hK hD hXP hFc⟩ rfl rfl hl.1 rfl (lv_room (Nat.le_of_ble_eq_true rfl)) dL_type_4 ⟨Nat.le_refl _, Nat.le_refl _⟩) hS hFc (fun ce q9 H1 locs hP1 hD1 hk1 hS hc1 hc2 hc3 => ?_)
  refine vx_catch (name := exS) (E := exS) hown [⟨0, 9, 12, 15⟩] ⟨0, 9, 16, 21⟩ [] htab (List.forall_mem_cons.mpr ⟨Or.inr ⟨by decide, exA, hts (.classLink RL 15 exA) (by decide +kernel), hXN.2.2⟩, fun _ h => absurd h List.not_mem_nil⟩) rfl (by decide) (hts (.classLink RL 21 exS) (by decide +kernel)) (va_Nw.use rfl (hXP.2.2.2.1 exS (by decide +kernel))) hc1 hc2 hc3 ?_
  show W p l e rmLT_type s m args below meth c H1 locs 1 6 _ (F0 m 16 ls [.ref q9])
  refine lv_astore (lv' := [(4, .ref q9), (0, .ref aU0), (1, .long v1), (3, .ref qo)]) hx hb dL_type_16 hl (by decide) rfl (fun ls hl => ?_)
  refine lv_iconst (v := 2) hx hb dL_type_18 (by decide) ?_
  have hD2 : va_D A wb := hD
  exact vx_ret (W.iret hx hb hr (fun t ht hW => ⟨⟨_, (), rfl, rfl, by rw [ht]; exact hP1, va_K.moved hW.alike hK, hD2⟩, hS.F ht⟩) (fun z hz => hS.2.2 z hz) dL_type_19)
abbrev rmL_model : Room := { frames := 60, cells := 8, slots := 429, locals := 1974 }
abbrev rmLT_model : Room := { frames := 7, cells := 1, slots := 6, locals := 114 }
set_option maxHeartbeats 4000000 in
set_option maxRecDepth 100000 in
theorem law_model_ok (l : Launch) (D : va_G) (k : Nat → ClassId) (wb : va_W) (wb' : (Nat → Nat) → va_W) (aU0 : Nat) (fs : List Value) (hb0 : wb[0]? = some (aU0, .inr (6, fs))) (qo : Nat) (f : Nat → Int64) (sz : Nat) (v1 : Int32) (r : Int32) (hM : ∀ sz : Nat, Met l yX6_model wsX6_model rmX6_model (va_Pc [.ref aU0, .int v1] (PreN D k wb sz)) (va_Qi (fun r9 (_ : Nat → Nat) => r9 = r) (fun u t => PostW D k (va_A wb sz) (wb' u) t) (va_A wb sz)) 8 429 (va_A wb sz)) : vx_Met l yL_model wsL_model rmL_model (va_Pc [.ref aU0, .int v1, .ref qo] (PreN D k (wo k qo f ++ wb) sz)) (va_Qi (fun r9 (_ : Nat → Nat) => r9 = 0) (fun u t => PostW D k (va_A (wo k qo f ++ wb) sz) (wo k qo (vp_updL f 0 (r.toInt64)) ++ wb' u) t) (va_A (wo k qo f ++ wb) sz)) NX 8 429 (va_A (wo k qo f ++ wb) sz) := by
  refine vx_ofWH (cc := cL_model) (maxL := 4) (ret := (some .int)) (hh := [(0, 9, 12, 13), (0, 9, 15, 21)]) (by decide) rfl ?_
  intro p e s m args below meth c s₁ B hml hv
  obtain ⟨hav, ⟨hsz, hP, hK, hD0⟩, hNW⟩ := hv
  have hx := B.exec
  have hb := B.bytes
  have hr := B.returns
  have hts := atoms_spec (ws := wsL_model) B.pre
  have hown : s.vm.findClass RL = some m.cls := findClass_of_methodNamed B.named
  have hlocks := B.notSynchronized
  subst hsz
  have hD := hD0.self (sz := s.heap.size)
  clear hD0
  obtain ⟨A, hAe⟩ : ∃ A, va_A (wo k qo f ++ wb) s.heap.size = A := ⟨_, rfl⟩
  rw [hAe] at hD
  have hA : ∀ q : Nat, s.heap.size ≤ q → A q := fun q h => by rw [← hAe]; exact Or.inr h
  have hS : va_S A s.heap s.heap [] := va_S.rf
  have hl := lv_entry ([.ref aU0, .int v1, .ref qo]) (n := 4) (Nat.le_of_ble_eq_true rfl)
  rw [show entryFrame m args 4 = entryFrame m ([.ref aU0, .int v1, .ref qo] : List Value).toArray 4 from by rw [hav], lg_entry_eq]
  generalize (lg_sl ([.ref aU0, .int v1, .ref qo]) ++ List.replicate (4 - (lg_sl ([.ref aU0, .int v1, .ref qo])).length) Slot.unset).toArray = ls at hl ⊢
  replace hl : lv_has ls 4 [(0, .ref aU0), (1, .int v1), (2, .ref qo)] := hl
  rw [hAe]
  show W p l e rmL_model s m args below meth c s.heap [] 0 0 _ (F0 m 0 ls [])
  refine lv_aload_n hx hb dL_model_0 rfl (lv_at hl 2 rfl) ?_
  refine lv_iconst (v := 0) hx hb dL_model_1 (by decide) ?_
  refine lv_aload_n hx hb dL_model_2 rfl (lv_at hl 0 rfl) ?_
  refine lv_iload_n hx hb dL_model_3 rfl (lv_at hl 1 rfl) ?_
  have hFc := vs_free (vd_r hD) hS hA
  refine xc_iG (va_runV (As := [.int v1]) (rest := [.int 0, .ref qo]) ⟨hx, hb, hml, hown, hts⟩ (hM s.heap.size) (cwV 1 hts gL_model_X6_model rfl rfl rfl (by decide +kernel) ⟨Nat.le_of_ble_eq_true rfl, Nat.le_of_ble_eq_true rfl⟩) ⟨pn_blind, va_recv hK (vs_r hP) (ci := 6) (q0 := 0) rfl hb0, pn_start (vs_r hP) hK (vd_r hD) hNW⟩ rfl rfl hl.1 rfl (lv_room (Nat.le_of_ble_eq_true rfl)) dL_model_4 ⟨Nat.le_of_ble_eq_true rfl, Nat.le_of_ble_eq_true rfl⟩) hS hFc (fun u H1 locs hP1 hD1 hk1 hS => ?_)
  obtain ⟨hP, hD⟩ := vs_joinR hP hD hFc hk1 hP1 hD1
  clear hP1 hD1 hk1 hFc
  refine lv_i2l hx hb dL_model_7 rfl ?_
  refine va_last hx hb hK hP hD hS 0 1 rfl rfl (vp_in_nI (n := 0) (N := 1) (by decide) (by decide)) dL_model_8 (fun H locs hP hD hS => ?_)
  replace hP : va_P D vwCl (wo k qo (vp_updL f 0 (r.toInt64)) ++ wb' u) H := hP
  replace hD : va_D A (wo k qo (vp_updL f 0 (r.toInt64)) ++ wb' u) := hD
  refine lv_goto (tgt := 18) hx hb dL_model_9 (by decide) ?_
  refine lv_iconst (v := 0) hx hb dL_model_18 (by decide) ?_
  exact vx_ret (W.iret hx hb hr (fun t ht hW => ⟨⟨_, u, rfl, rfl, by rw [ht]; exact hP, va_K.moved hW.alike hK, hD⟩, hS.F ht⟩) hS.2.2 dL_model_19)
set_option maxHeartbeats 4000000 in
set_option maxRecDepth 100000 in
theorem law_model_x1 (l : Launch) (D : va_G) (k : Nat → ClassId) (wb : va_W) (aU0 : Nat) (fs : List Value) (hb0 : wb[0]? = some (aU0, .inr (6, fs))) (qo : Nat) (sz : Nat) (v1 : Int32) (hM : ∀ sz : Nat, vx_Met l yX6_model wsX6_model rmTX6_model (va_Pc [.ref aU0, .int v1] (PreX D k wb sz)) NQ (XQ D k wb sz exI) 1 6 (va_A wb sz)) : vx_Met l yL_model wsL_model rmLT_model (va_Pc [.ref aU0, .int v1, .ref qo] (PreY D k wb sz)) (va_Qi (fun r9 (_ : Unit) => r9 = 1) (fun _ t => PostW D k (va_A wb sz) wb t) (va_A wb sz)) NX 1 6 (va_A wb sz) := by
  refine vx_ofWH (cc := cL_model) (maxL := 4) (ret := (some .int)) (hh := [(0, 9, 12, 13), (0, 9, 15, 21)]) (by decide) rfl ?_
  intro p e s m args below meth c s₁ B hml hv
  obtain ⟨hav, ⟨⟨hsz, hP, hK, hD0⟩, hXP⟩, hXN⟩ := hv
  have hx := B.exec
  have hb := B.bytes
  have hr := B.returns
  have hts := atoms_spec (ws := wsL_model) B.pre
  have hown : s.vm.findClass RL = some m.cls := findClass_of_methodNamed B.named
  have hlocks := B.notSynchronized
  subst hsz
  have hD := hD0.self (sz := s.heap.size)
  clear hD0
  obtain ⟨A, hAe⟩ : ∃ A, va_A wb s.heap.size = A := ⟨_, rfl⟩
  rw [hAe] at hD hXP
  have hA : ∀ q : Nat, s.heap.size ≤ q → A q := fun q h => by rw [← hAe]; exact Or.inr h
  have hS : va_S A s.heap s.heap [] := va_S.rf
  have hl := lv_entry ([.ref aU0, .int v1, .ref qo]) (n := 4) (Nat.le_of_ble_eq_true rfl)
  rw [show entryFrame m args 4 = entryFrame m ([.ref aU0, .int v1, .ref qo] : List Value).toArray 4 from by rw [hav], lg_entry_eq]
  generalize (lg_sl ([.ref aU0, .int v1, .ref qo]) ++ List.replicate (4 - (lg_sl ([.ref aU0, .int v1, .ref qo])).length) Slot.unset).toArray = ls at hl ⊢
  replace hl : lv_has ls 4 [(0, .ref aU0), (1, .int v1), (2, .ref qo)] := hl
  rw [hAe]
  show W p l e rmLT_model s m args below meth c s.heap [] 0 0 _ (F0 m 0 ls [])
  have htab : c.exceptionTable.toList = [⟨0, 9, 12, 13⟩, ⟨0, 9, 15, 21⟩] := vx_table (x := yL_model) B (hts (.codeWith yL_model cL_model 4 (some .int) [(0, 9, 12, 13), (0, 9, 15, 21)]) List.mem_cons_self)
  refine lv_aload_n hx hb dL_model_0 rfl (lv_at hl 2 rfl) ?_
  refine lv_iconst (v := 0) hx hb dL_model_1 (by decide) ?_
  refine lv_aload_n hx hb dL_model_2 rfl (lv_at hl 0 rfl) ?_
  refine lv_iload_n hx hb dL_model_3 rfl (lv_at hl 1 rfl) ?_
  have hFc := vs_free hD hS hA
  refine xt_c (vx_runV (As := [.int v1]) (rest := [.int 0, .ref qo]) ⟨hx, hb, hml, hown, hts⟩ (hM s.heap.size) (cwV 1 hts gL_model_X6_model rfl rfl rfl (by decide +kernel) ⟨Nat.le_of_ble_eq_true rfl, Nat.le_of_ble_eq_true rfl⟩) ⟨px_blind, va_recv hK hP (ci := 6) (q0 := 0) rfl hb0, px_start hP hK hD hXP hFc⟩ rfl rfl hl.1 rfl (lv_room (Nat.le_of_ble_eq_true rfl)) dL_model_4 ⟨Nat.le_refl _, Nat.le_refl _⟩) hS hFc (fun ce q9 H1 locs hP1 hD1 hk1 hS hc1 hc2 hc3 => ?_)
  refine vx_catch (name := exI) (E := exI) hown [] ⟨0, 9, 12, 13⟩ [⟨0, 9, 15, 21⟩] htab (fun z hz => nomatch hz) rfl (by decide) (hts (.classLink RL 13 exI) (by decide +kernel)) (va_Nw.use rfl (hXP.2.2.2.1 exI (by decide +kernel))) hc1 hc2 hc3 ?_
  show W p l e rmLT_model s m args below meth c H1 locs 1 6 _ (F0 m 12 ls [.ref q9])
  refine lv_astore_n (lv' := [(3, .ref q9), (0, .ref aU0), (1, .int v1), (2, .ref qo)]) hx hb dL_model_12 rfl hl (by decide) rfl (fun ls hl => ?_)
  refine lv_iconst (v := 1) hx hb dL_model_13 (by decide) ?_
  have hD2 : va_D A wb := hD
  exact vx_ret (W.iret hx hb hr (fun t ht hW => ⟨⟨_, (), rfl, rfl, by rw [ht]; exact hP1, va_K.moved hW.alike hK, hD2⟩, hS.F ht⟩) (fun z hz => hS.2.2 z hz) dL_model_14)
set_option maxHeartbeats 4000000 in
set_option maxRecDepth 100000 in
theorem law_model_x2 (l : Launch) (D : va_G) (k : Nat → ClassId) (wb : va_W) (aU0 : Nat) (fs : List Value) (hb0 : wb[0]? = some (aU0, .inr (6, fs))) (qo : Nat) (sz : Nat) (v1 : Int32) (hM : ∀ sz : Nat, vx_Met l yX6_model wsX6_model rmTX6_model (va_Pc [.ref aU0, .int v1] (PreX D k wb sz)) NQ (XQ D k wb sz exS) 1 6 (va_A wb sz)) : vx_Met l yL_model wsL_model rmLT_model (va_Pc [.ref aU0, .int v1, .ref qo] (PreY D k wb sz)) (va_Qi (fun r9 (_ : Unit) => r9 = 2) (fun _ t => PostW D k (va_A wb sz) wb t) (va_A wb sz)) NX 1 6 (va_A wb sz) := by
  refine vx_ofWH (cc := cL_model) (maxL := 4) (ret := (some .int)) (hh := [(0, 9, 12, 13), (0, 9, 15, 21)]) (by decide) rfl ?_
  intro p e s m args below meth c s₁ B hml hv
  obtain ⟨hav, ⟨⟨hsz, hP, hK, hD0⟩, hXP⟩, hXN⟩ := hv
  have hx := B.exec
  have hb := B.bytes
  have hr := B.returns
  have hts := atoms_spec (ws := wsL_model) B.pre
  have hown : s.vm.findClass RL = some m.cls := findClass_of_methodNamed B.named
  have hlocks := B.notSynchronized
  subst hsz
  have hD := hD0.self (sz := s.heap.size)
  clear hD0
  obtain ⟨A, hAe⟩ : ∃ A, va_A wb s.heap.size = A := ⟨_, rfl⟩
  rw [hAe] at hD hXP
  have hA : ∀ q : Nat, s.heap.size ≤ q → A q := fun q h => by rw [← hAe]; exact Or.inr h
  have hS : va_S A s.heap s.heap [] := va_S.rf
  have hl := lv_entry ([.ref aU0, .int v1, .ref qo]) (n := 4) (Nat.le_of_ble_eq_true rfl)
  rw [show entryFrame m args 4 = entryFrame m ([.ref aU0, .int v1, .ref qo] : List Value).toArray 4 from by rw [hav], lg_entry_eq]
  generalize (lg_sl ([.ref aU0, .int v1, .ref qo]) ++ List.replicate (4 - (lg_sl ([.ref aU0, .int v1, .ref qo])).length) Slot.unset).toArray = ls at hl ⊢
  replace hl : lv_has ls 4 [(0, .ref aU0), (1, .int v1), (2, .ref qo)] := hl
  rw [hAe]
  show W p l e rmLT_model s m args below meth c s.heap [] 0 0 _ (F0 m 0 ls [])
  have htab : c.exceptionTable.toList = [⟨0, 9, 12, 13⟩, ⟨0, 9, 15, 21⟩] := vx_table (x := yL_model) B (hts (.codeWith yL_model cL_model 4 (some .int) [(0, 9, 12, 13), (0, 9, 15, 21)]) List.mem_cons_self)
  refine lv_aload_n hx hb dL_model_0 rfl (lv_at hl 2 rfl) ?_
  refine lv_iconst (v := 0) hx hb dL_model_1 (by decide) ?_
  refine lv_aload_n hx hb dL_model_2 rfl (lv_at hl 0 rfl) ?_
  refine lv_iload_n hx hb dL_model_3 rfl (lv_at hl 1 rfl) ?_
  have hFc := vs_free hD hS hA
  refine xt_c (vx_runV (As := [.int v1]) (rest := [.int 0, .ref qo]) ⟨hx, hb, hml, hown, hts⟩ (hM s.heap.size) (cwV 1 hts gL_model_X6_model rfl rfl rfl (by decide +kernel) ⟨Nat.le_of_ble_eq_true rfl, Nat.le_of_ble_eq_true rfl⟩) ⟨px_blind, va_recv hK hP (ci := 6) (q0 := 0) rfl hb0, px_start hP hK hD hXP hFc⟩ rfl rfl hl.1 rfl (lv_room (Nat.le_of_ble_eq_true rfl)) dL_model_4 ⟨Nat.le_refl _, Nat.le_refl _⟩) hS hFc (fun ce q9 H1 locs hP1 hD1 hk1 hS hc1 hc2 hc3 => ?_)
  refine vx_catch (name := exS) (E := exS) hown [⟨0, 9, 12, 13⟩] ⟨0, 9, 15, 21⟩ [] htab (List.forall_mem_cons.mpr ⟨Or.inr ⟨by decide, exI, hts (.classLink RL 13 exI) (by decide +kernel), hXN.2.1⟩, fun _ h => absurd h List.not_mem_nil⟩) rfl (by decide) (hts (.classLink RL 21 exS) (by decide +kernel)) (va_Nw.use rfl (hXP.2.2.2.1 exS (by decide +kernel))) hc1 hc2 hc3 ?_
  show W p l e rmLT_model s m args below meth c H1 locs 1 6 _ (F0 m 15 ls [.ref q9])
  refine lv_astore_n (lv' := [(3, .ref q9), (0, .ref aU0), (1, .int v1), (2, .ref qo)]) hx hb dL_model_15 rfl hl (by decide) rfl (fun ls hl => ?_)
  refine lv_iconst (v := 2) hx hb dL_model_16 (by decide) ?_
  have hD2 : va_D A wb := hD
  exact vx_ret (W.iret hx hb hr (fun t ht hW => ⟨⟨_, (), rfl, rfl, by rw [ht]; exact hP1, va_K.moved hW.alike hK, hD2⟩, hS.F ht⟩) (fun z hz => hS.2.2 z hz) dL_model_17)
abbrev rmL_disagrees : Room := { frames := 4, cells := 0, slots := 0, locals := 91 }
abbrev rmLT_disagrees : Room := { frames := 8, cells := 1, slots := 6, locals := 161 }
set_option maxHeartbeats 4000000 in
set_option maxRecDepth 100000 in
theorem law_disagrees_ok (l : Launch) (D : va_G) (k : Nat → ClassId) (wb : va_W) (wb' : (Nat → Nat) → va_W) (aU0 : Nat) (fs : List Value) (hb0 : wb[0]? = some (aU0, .inr (6, fs))) (qo : Nat) (f : Nat → Int64) (sz : Nat) (v1 : Int32) (r : Int32) (hM : ∀ sz : Nat, Met l yX6_disagrees wsX6_disagrees rmX6_disagrees (va_Pc [.ref aU0, .int v1] (PreN D k wb sz)) (va_Qi (fun r9 (_ : Nat → Nat) => r9 = r) (fun u t => PostW D k (va_A wb sz) (wb' u) t) (va_A wb sz)) 0 0 (va_A wb sz)) : vx_Met l yL_disagrees wsL_disagrees rmL_disagrees (va_Pc [.ref aU0, .int v1, .ref qo] (PreN D k (wo k qo f ++ wb) sz)) (va_Qi (fun r9 (_ : Nat → Nat) => r9 = 0) (fun u t => PostW D k (va_A (wo k qo f ++ wb) sz) (wo k qo (vp_updL f 0 (r.toInt64)) ++ wb' u) t) (va_A (wo k qo f ++ wb) sz)) NX 0 0 (va_A (wo k qo f ++ wb) sz) := by
  refine vx_ofWH (cc := cL_disagrees) (maxL := 4) (ret := (some .int)) (hh := [(0, 9, 12, 13)]) (by decide) rfl ?_
  intro p e s m args below meth c s₁ B hml hv
  obtain ⟨hav, ⟨hsz, hP, hK, hD0⟩, hNW⟩ := hv
  have hx := B.exec
  have hb := B.bytes
  have hr := B.returns
  have hts := atoms_spec (ws := wsL_disagrees) B.pre
  have hown : s.vm.findClass RL = some m.cls := findClass_of_methodNamed B.named
  have hlocks := B.notSynchronized
  subst hsz
  have hD := hD0.self (sz := s.heap.size)
  clear hD0
  obtain ⟨A, hAe⟩ : ∃ A, va_A (wo k qo f ++ wb) s.heap.size = A := ⟨_, rfl⟩
  rw [hAe] at hD
  have hA : ∀ q : Nat, s.heap.size ≤ q → A q := fun q h => by rw [← hAe]; exact Or.inr h
  have hS : va_S A s.heap s.heap [] := va_S.rf
  have hl := lv_entry ([.ref aU0, .int v1, .ref qo]) (n := 4) (Nat.le_of_ble_eq_true rfl)
  rw [show entryFrame m args 4 = entryFrame m ([.ref aU0, .int v1, .ref qo] : List Value).toArray 4 from by rw [hav], lg_entry_eq]
  generalize (lg_sl ([.ref aU0, .int v1, .ref qo]) ++ List.replicate (4 - (lg_sl ([.ref aU0, .int v1, .ref qo])).length) Slot.unset).toArray = ls at hl ⊢
  replace hl : lv_has ls 4 [(0, .ref aU0), (1, .int v1), (2, .ref qo)] := hl
  rw [hAe]
  show W p l e rmL_disagrees s m args below meth c s.heap [] 0 0 _ (F0 m 0 ls [])
  refine lv_aload_n hx hb dL_disagrees_0 rfl (lv_at hl 2 rfl) ?_
  refine lv_iconst (v := 0) hx hb dL_disagrees_1 (by decide) ?_
  refine lv_aload_n hx hb dL_disagrees_2 rfl (lv_at hl 0 rfl) ?_
  refine lv_iload_n hx hb dL_disagrees_3 rfl (lv_at hl 1 rfl) ?_
  have hFc := vs_free (vd_r hD) hS hA
  refine xc_iG (va_runV (As := [.int v1]) (rest := [.int 0, .ref qo]) ⟨hx, hb, hml, hown, hts⟩ (hM s.heap.size) (cwV 1 hts gL_disagrees_X6_disagrees rfl rfl rfl (by decide +kernel) ⟨Nat.le_of_ble_eq_true rfl, Nat.le_of_ble_eq_true rfl⟩) ⟨pn_blind, va_recv hK (vs_r hP) (ci := 6) (q0 := 0) rfl hb0, pn_start (vs_r hP) hK (vd_r hD) hNW⟩ rfl rfl hl.1 rfl (lv_room (Nat.le_of_ble_eq_true rfl)) dL_disagrees_4 ⟨Nat.zero_le _, Nat.zero_le _⟩) hS hFc (fun u H1 locs hP1 hD1 hk1 hS => ?_)
  obtain ⟨hP, hD⟩ := vs_joinR hP hD hFc hk1 hP1 hD1
  clear hP1 hD1 hk1 hFc
  refine lv_i2l hx hb dL_disagrees_7 rfl ?_
  refine va_last hx hb hK hP hD hS 0 1 rfl rfl (vp_in_nI (n := 0) (N := 1) (by decide) (by decide)) dL_disagrees_8 (fun H locs hP hD hS => ?_)
  replace hP : va_P D vwCl (wo k qo (vp_updL f 0 (r.toInt64)) ++ wb' u) H := hP
  replace hD : va_D A (wo k qo (vp_updL f 0 (r.toInt64)) ++ wb' u) := hD
  refine lv_goto (tgt := 15) hx hb dL_disagrees_9 (by decide) ?_
  refine lv_iconst (v := 0) hx hb dL_disagrees_15 (by decide) ?_
  exact vx_ret (W.iret hx hb hr (fun t ht hW => ⟨⟨_, u, rfl, rfl, by rw [ht]; exact hP, va_K.moved hW.alike hK, hD⟩, hS.F ht⟩) hS.2.2 dL_disagrees_16)
set_option maxHeartbeats 4000000 in
set_option maxRecDepth 100000 in
theorem law_disagrees_x1 (l : Launch) (D : va_G) (k : Nat → ClassId) (wb : va_W) (aU0 : Nat) (fs : List Value) (hb0 : wb[0]? = some (aU0, .inr (6, fs))) (qo : Nat) (sz : Nat) (v1 : Int32) (hM : ∀ sz : Nat, vx_Met l yX6_disagrees wsX6_disagrees rmTX6_disagrees (va_Pc [.ref aU0, .int v1] (PreX D k wb sz)) NQ (XQ D k wb sz exI) 1 6 (va_A wb sz)) : vx_Met l yL_disagrees wsL_disagrees rmLT_disagrees (va_Pc [.ref aU0, .int v1, .ref qo] (PreY D k wb sz)) (va_Qi (fun r9 (_ : Unit) => r9 = 1) (fun _ t => PostW D k (va_A wb sz) wb t) (va_A wb sz)) NX 1 6 (va_A wb sz) := by
  refine vx_ofWH (cc := cL_disagrees) (maxL := 4) (ret := (some .int)) (hh := [(0, 9, 12, 13)]) (by decide) rfl ?_
  intro p e s m args below meth c s₁ B hml hv
  obtain ⟨hav, ⟨⟨hsz, hP, hK, hD0⟩, hXP⟩, hXN⟩ := hv
  have hx := B.exec
  have hb := B.bytes
  have hr := B.returns
  have hts := atoms_spec (ws := wsL_disagrees) B.pre
  have hown : s.vm.findClass RL = some m.cls := findClass_of_methodNamed B.named
  have hlocks := B.notSynchronized
  subst hsz
  have hD := hD0.self (sz := s.heap.size)
  clear hD0
  obtain ⟨A, hAe⟩ : ∃ A, va_A wb s.heap.size = A := ⟨_, rfl⟩
  rw [hAe] at hD hXP
  have hA : ∀ q : Nat, s.heap.size ≤ q → A q := fun q h => by rw [← hAe]; exact Or.inr h
  have hS : va_S A s.heap s.heap [] := va_S.rf
  have hl := lv_entry ([.ref aU0, .int v1, .ref qo]) (n := 4) (Nat.le_of_ble_eq_true rfl)
  rw [show entryFrame m args 4 = entryFrame m ([.ref aU0, .int v1, .ref qo] : List Value).toArray 4 from by rw [hav], lg_entry_eq]
  generalize (lg_sl ([.ref aU0, .int v1, .ref qo]) ++ List.replicate (4 - (lg_sl ([.ref aU0, .int v1, .ref qo])).length) Slot.unset).toArray = ls at hl ⊢
  replace hl : lv_has ls 4 [(0, .ref aU0), (1, .int v1), (2, .ref qo)] := hl
  rw [hAe]
  show W p l e rmLT_disagrees s m args below meth c s.heap [] 0 0 _ (F0 m 0 ls [])
  have htab : c.exceptionTable.toList = [⟨0, 9, 12, 13⟩] := vx_table (x := yL_disagrees) B (hts (.codeWith yL_disagrees cL_disagrees 4 (some .int) [(0, 9, 12, 13)]) List.mem_cons_self)
  refine lv_aload_n hx hb dL_disagrees_0 rfl (lv_at hl 2 rfl) ?_
  refine lv_iconst (v := 0) hx hb dL_disagrees_1 (by decide) ?_
  refine lv_aload_n hx hb dL_disagrees_2 rfl (lv_at hl 0 rfl) ?_
  refine lv_iload_n hx hb dL_disagrees_3 rfl (lv_at hl 1 rfl) ?_
  have hFc := vs_free hD hS hA
  refine xt_c (vx_runV (As := [.int v1]) (rest := [.int 0, .ref qo]) ⟨hx, hb, hml, hown, hts⟩ (hM s.heap.size) (cwV 1 hts gL_disagrees_X6_disagrees rfl rfl rfl (by decide +kernel) ⟨Nat.le_of_ble_eq_true rfl, Nat.le_of_ble_eq_true rfl⟩) ⟨px_blind, va_recv hK hP (ci := 6) (q0 := 0) rfl hb0, px_start hP hK hD hXP hFc⟩ rfl rfl hl.1 rfl (lv_room (Nat.le_of_ble_eq_true rfl)) dL_disagrees_4 ⟨Nat.le_refl _, Nat.le_refl _⟩) hS hFc (fun ce q9 H1 locs hP1 hD1 hk1 hS hc1 hc2 hc3 => ?_)
  refine vx_catch (name := exI) (E := exI) hown [] ⟨0, 9, 12, 13⟩ [] htab (fun z hz => nomatch hz) rfl (by decide) (hts (.classLink RL 13 exI) (by decide +kernel)) (va_Nw.use rfl (hXP.2.2.2.1 exI (by decide +kernel))) hc1 hc2 hc3 ?_
  show W p l e rmLT_disagrees s m args below meth c H1 locs 1 6 _ (F0 m 12 ls [.ref q9])
  refine lv_astore_n (lv' := [(3, .ref q9), (0, .ref aU0), (1, .int v1), (2, .ref qo)]) hx hb dL_disagrees_12 rfl hl (by decide) rfl (fun ls hl => ?_)
  refine lv_iconst (v := 1) hx hb dL_disagrees_13 (by decide) ?_
  have hD2 : va_D A wb := hD
  exact vx_ret (W.iret hx hb hr (fun t ht hW => ⟨⟨_, (), rfl, rfl, by rw [ht]; exact hP1, va_K.moved hW.alike hK, hD2⟩, hS.F ht⟩) (fun z hz => hS.2.2 z hz) dL_disagrees_14)
abbrev rmL_unitOf : Room := { frames := 3, cells := 0, slots := 0, locals := 68 }
abbrev rmLT_unitOf : Room := { frames := 8, cells := 1, slots := 6, locals := 162 }
set_option maxHeartbeats 4000000 in
set_option maxRecDepth 100000 in
theorem law_unitOf_ok (l : Launch) (D : va_G) (k : Nat → ClassId) (wb : va_W) (wb' : (Nat → Nat) → va_W) (aU0 : Nat) (fs : List Value) (hb0 : wb[0]? = some (aU0, .inr (6, fs))) (qo : Nat) (f : Nat → Int64) (sz : Nat) (v1 : Int32) (v2 : Int32) (r : Int32) (hM : ∀ sz : Nat, Met l yX6_unitOf wsX6_unitOf rmX6_unitOf (va_Pc [.ref aU0, .int v1, .int v2] (PreN D k wb sz)) (va_Qi (fun r9 (_ : Nat → Nat) => r9 = r) (fun u t => PostW D k (va_A wb sz) (wb' u) t) (va_A wb sz)) 0 0 (va_A wb sz)) : vx_Met l yL_unitOf wsL_unitOf rmL_unitOf (va_Pc [.ref aU0, .int v1, .int v2, .ref qo] (PreN D k (wo k qo f ++ wb) sz)) (va_Qi (fun r9 (_ : Nat → Nat) => r9 = 0) (fun u t => PostW D k (va_A (wo k qo f ++ wb) sz) (wo k qo (vp_updL f 0 (r.toInt64)) ++ wb' u) t) (va_A (wo k qo f ++ wb) sz)) NX 0 0 (va_A (wo k qo f ++ wb) sz) := by
  refine vx_ofWH (cc := cL_unitOf) (maxL := 5) (ret := (some .int)) (hh := [(0, 10, 13, 13)]) (by decide) rfl ?_
  intro p e s m args below meth c s₁ B hml hv
  obtain ⟨hav, ⟨hsz, hP, hK, hD0⟩, hNW⟩ := hv
  have hx := B.exec
  have hb := B.bytes
  have hr := B.returns
  have hts := atoms_spec (ws := wsL_unitOf) B.pre
  have hown : s.vm.findClass RL = some m.cls := findClass_of_methodNamed B.named
  have hlocks := B.notSynchronized
  subst hsz
  have hD := hD0.self (sz := s.heap.size)
  clear hD0
  obtain ⟨A, hAe⟩ : ∃ A, va_A (wo k qo f ++ wb) s.heap.size = A := ⟨_, rfl⟩
  rw [hAe] at hD
  have hA : ∀ q : Nat, s.heap.size ≤ q → A q := fun q h => by rw [← hAe]; exact Or.inr h
  have hS : va_S A s.heap s.heap [] := va_S.rf
  have hl := lv_entry ([.ref aU0, .int v1, .int v2, .ref qo]) (n := 5) (Nat.le_of_ble_eq_true rfl)
  rw [show entryFrame m args 5 = entryFrame m ([.ref aU0, .int v1, .int v2, .ref qo] : List Value).toArray 5 from by rw [hav], lg_entry_eq]
  generalize (lg_sl ([.ref aU0, .int v1, .int v2, .ref qo]) ++ List.replicate (5 - (lg_sl ([.ref aU0, .int v1, .int v2, .ref qo])).length) Slot.unset).toArray = ls at hl ⊢
  replace hl : lv_has ls 5 [(0, .ref aU0), (1, .int v1), (2, .int v2), (3, .ref qo)] := hl
  rw [hAe]
  show W p l e rmL_unitOf s m args below meth c s.heap [] 0 0 _ (F0 m 0 ls [])
  refine lv_aload_n hx hb dL_unitOf_0 rfl (lv_at hl 3 rfl) ?_
  refine lv_iconst (v := 0) hx hb dL_unitOf_1 (by decide) ?_
  refine lv_aload_n hx hb dL_unitOf_2 rfl (lv_at hl 0 rfl) ?_
  refine lv_iload_n hx hb dL_unitOf_3 rfl (lv_at hl 1 rfl) ?_
  refine lv_iload_n hx hb dL_unitOf_4 rfl (lv_at hl 2 rfl) ?_
  have hFc := vs_free (vd_r hD) hS hA
  refine xc_iG (va_runV (As := [.int v1, .int v2]) (rest := [.int 0, .ref qo]) ⟨hx, hb, hml, hown, hts⟩ (hM s.heap.size) (cwV 2 hts gL_unitOf_X6_unitOf rfl rfl rfl (by decide +kernel) ⟨Nat.le_of_ble_eq_true rfl, Nat.le_of_ble_eq_true rfl⟩) ⟨pn_blind, va_recv hK (vs_r hP) (ci := 6) (q0 := 0) rfl hb0, pn_start (vs_r hP) hK (vd_r hD) hNW⟩ rfl rfl hl.1 rfl (lv_room (Nat.le_of_ble_eq_true rfl)) dL_unitOf_5 ⟨Nat.zero_le _, Nat.zero_le _⟩) hS hFc (fun u H1 locs hP1 hD1 hk1 hS => ?_)
  obtain ⟨hP, hD⟩ := vs_joinR hP hD hFc hk1 hP1 hD1
  clear hP1 hD1 hk1 hFc
  refine lv_i2l hx hb dL_unitOf_8 rfl ?_
  refine va_last hx hb hK hP hD hS 0 1 rfl rfl (vp_in_nI (n := 0) (N := 1) (by decide) (by decide)) dL_unitOf_9 (fun H locs hP hD hS => ?_)
  replace hP : va_P D vwCl (wo k qo (vp_updL f 0 (r.toInt64)) ++ wb' u) H := hP
  replace hD : va_D A (wo k qo (vp_updL f 0 (r.toInt64)) ++ wb' u) := hD
  refine lv_goto (tgt := 17) hx hb dL_unitOf_10 (by decide) ?_
  refine lv_iconst (v := 0) hx hb dL_unitOf_17 (by decide) ?_
  exact vx_ret (W.iret hx hb hr (fun t ht hW => ⟨⟨_, u, rfl, rfl, by rw [ht]; exact hP, va_K.moved hW.alike hK, hD⟩, hS.F ht⟩) hS.2.2 dL_unitOf_18)
set_option maxHeartbeats 4000000 in
set_option maxRecDepth 100000 in
theorem law_unitOf_x1 (l : Launch) (D : va_G) (k : Nat → ClassId) (wb : va_W) (aU0 : Nat) (fs : List Value) (hb0 : wb[0]? = some (aU0, .inr (6, fs))) (qo : Nat) (sz : Nat) (v1 : Int32) (v2 : Int32) (hM : ∀ sz : Nat, vx_Met l yX6_unitOf wsX6_unitOf rmTX6_unitOf (va_Pc [.ref aU0, .int v1, .int v2] (PreX D k wb sz)) NQ (XQ D k wb sz exI) 1 6 (va_A wb sz)) : vx_Met l yL_unitOf wsL_unitOf rmLT_unitOf (va_Pc [.ref aU0, .int v1, .int v2, .ref qo] (PreY D k wb sz)) (va_Qi (fun r9 (_ : Unit) => r9 = 1) (fun _ t => PostW D k (va_A wb sz) wb t) (va_A wb sz)) NX 1 6 (va_A wb sz) := by
  refine vx_ofWH (cc := cL_unitOf) (maxL := 5) (ret := (some .int)) (hh := [(0, 10, 13, 13)]) (by decide) rfl ?_
  intro p e s m args below meth c s₁ B hml hv
  obtain ⟨hav, ⟨⟨hsz, hP, hK, hD0⟩, hXP⟩, hXN⟩ := hv
  have hx := B.exec
  have hb := B.bytes
  have hr := B.returns
  have hts := atoms_spec (ws := wsL_unitOf) B.pre
  have hown : s.vm.findClass RL = some m.cls := findClass_of_methodNamed B.named
  have hlocks := B.notSynchronized
  subst hsz
  have hD := hD0.self (sz := s.heap.size)
  clear hD0
  obtain ⟨A, hAe⟩ : ∃ A, va_A wb s.heap.size = A := ⟨_, rfl⟩
  rw [hAe] at hD hXP
  have hA : ∀ q : Nat, s.heap.size ≤ q → A q := fun q h => by rw [← hAe]; exact Or.inr h
  have hS : va_S A s.heap s.heap [] := va_S.rf
  have hl := lv_entry ([.ref aU0, .int v1, .int v2, .ref qo]) (n := 5) (Nat.le_of_ble_eq_true rfl)
  rw [show entryFrame m args 5 = entryFrame m ([.ref aU0, .int v1, .int v2, .ref qo] : List Value).toArray 5 from by rw [hav], lg_entry_eq]
  generalize (lg_sl ([.ref aU0, .int v1, .int v2, .ref qo]) ++ List.replicate (5 - (lg_sl ([.ref aU0, .int v1, .int v2, .ref qo])).length) Slot.unset).toArray = ls at hl ⊢
  replace hl : lv_has ls 5 [(0, .ref aU0), (1, .int v1), (2, .int v2), (3, .ref qo)] := hl
  rw [hAe]
  show W p l e rmLT_unitOf s m args below meth c s.heap [] 0 0 _ (F0 m 0 ls [])
  have htab : c.exceptionTable.toList = [⟨0, 10, 13, 13⟩] := vx_table (x := yL_unitOf) B (hts (.codeWith yL_unitOf cL_unitOf 5 (some .int) [(0, 10, 13, 13)]) List.mem_cons_self)
  refine lv_aload_n hx hb dL_unitOf_0 rfl (lv_at hl 3 rfl) ?_
  refine lv_iconst (v := 0) hx hb dL_unitOf_1 (by decide) ?_
  refine lv_aload_n hx hb dL_unitOf_2 rfl (lv_at hl 0 rfl) ?_
  refine lv_iload_n hx hb dL_unitOf_3 rfl (lv_at hl 1 rfl) ?_
  refine lv_iload_n hx hb dL_unitOf_4 rfl (lv_at hl 2 rfl) ?_
  have hFc := vs_free hD hS hA
  refine xt_c (vx_runV (As := [.int v1, .int v2]) (rest := [.int 0, .ref qo]) ⟨hx, hb, hml, hown, hts⟩ (hM s.heap.size) (cwV 2 hts gL_unitOf_X6_unitOf rfl rfl rfl (by decide +kernel) ⟨Nat.le_of_ble_eq_true rfl, Nat.le_of_ble_eq_true rfl⟩) ⟨px_blind, va_recv hK hP (ci := 6) (q0 := 0) rfl hb0, px_start hP hK hD hXP hFc⟩ rfl rfl hl.1 rfl (lv_room (Nat.le_of_ble_eq_true rfl)) dL_unitOf_5 ⟨Nat.le_refl _, Nat.le_refl _⟩) hS hFc (fun ce q9 H1 locs hP1 hD1 hk1 hS hc1 hc2 hc3 => ?_)
  refine vx_catch (name := exI) (E := exI) hown [] ⟨0, 10, 13, 13⟩ [] htab (fun z hz => nomatch hz) rfl (by decide) (hts (.classLink RL 13 exI) (by decide +kernel)) (va_Nw.use rfl (hXP.2.2.2.1 exI (by decide +kernel))) hc1 hc2 hc3 ?_
  show W p l e rmLT_unitOf s m args below meth c H1 locs 1 6 _ (F0 m 13 ls [.ref q9])
  refine lv_astore (lv' := [(4, .ref q9), (0, .ref aU0), (1, .int v1), (2, .int v2), (3, .ref qo)]) hx hb dL_unitOf_13 hl (by decide) rfl (fun ls hl => ?_)
  refine lv_iconst (v := 1) hx hb dL_unitOf_15 (by decide) ?_
  have hD2 : va_D A wb := hD
  exact vx_ret (W.iret hx hb hr (fun t ht hW => ⟨⟨_, (), rfl, rfl, by rw [ht]; exact hP1, va_K.moved hW.alike hK, hD2⟩, hS.F ht⟩) (fun z hz => hS.2.2 z hz) dL_unitOf_16)
abbrev rmL_value : Room := { frames := 4, cells := 0, slots := 0, locals := 92 }
abbrev rmLT_value : Room := { frames := 8, cells := 1, slots := 6, locals := 161 }
set_option maxHeartbeats 4000000 in
set_option maxRecDepth 100000 in
theorem law_value_ok (l : Launch) (D : va_G) (k : Nat → ClassId) (wb : va_W) (wb' : (Nat → Nat) → va_W) (aU0 : Nat) (fs : List Value) (hb0 : wb[0]? = some (aU0, .inr (6, fs))) (qo : Nat) (f : Nat → Int64) (sz : Nat) (v1 : Int32) (r : Int64) (hM : ∀ sz : Nat, Met l yX6_value wsX6_value rmX6_value (va_Pc [.ref aU0, .int v1] (PreN D k wb sz)) (va_Ql (fun r9 (_ : Nat → Nat) => r9 = r) (fun u t => PostW D k (va_A wb sz) (wb' u) t) (va_A wb sz)) 0 0 (va_A wb sz)) : vx_Met l yL_value wsL_value rmL_value (va_Pc [.ref aU0, .int v1, .ref qo] (PreN D k (wo k qo f ++ wb) sz)) (va_Qi (fun r9 (_ : Nat → Nat) => r9 = 0) (fun u t => PostW D k (va_A (wo k qo f ++ wb) sz) (wo k qo (vp_updL f 0 r) ++ wb' u) t) (va_A (wo k qo f ++ wb) sz)) NX 0 0 (va_A (wo k qo f ++ wb) sz) := by
  refine vx_ofWH (cc := cL_value) (maxL := 4) (ret := (some .int)) (hh := [(0, 8, 11, 13)]) (by decide) rfl ?_
  intro p e s m args below meth c s₁ B hml hv
  obtain ⟨hav, ⟨hsz, hP, hK, hD0⟩, hNW⟩ := hv
  have hx := B.exec
  have hb := B.bytes
  have hr := B.returns
  have hts := atoms_spec (ws := wsL_value) B.pre
  have hown : s.vm.findClass RL = some m.cls := findClass_of_methodNamed B.named
  have hlocks := B.notSynchronized
  subst hsz
  have hD := hD0.self (sz := s.heap.size)
  clear hD0
  obtain ⟨A, hAe⟩ : ∃ A, va_A (wo k qo f ++ wb) s.heap.size = A := ⟨_, rfl⟩
  rw [hAe] at hD
  have hA : ∀ q : Nat, s.heap.size ≤ q → A q := fun q h => by rw [← hAe]; exact Or.inr h
  have hS : va_S A s.heap s.heap [] := va_S.rf
  have hl := lv_entry ([.ref aU0, .int v1, .ref qo]) (n := 4) (Nat.le_of_ble_eq_true rfl)
  rw [show entryFrame m args 4 = entryFrame m ([.ref aU0, .int v1, .ref qo] : List Value).toArray 4 from by rw [hav], lg_entry_eq]
  generalize (lg_sl ([.ref aU0, .int v1, .ref qo]) ++ List.replicate (4 - (lg_sl ([.ref aU0, .int v1, .ref qo])).length) Slot.unset).toArray = ls at hl ⊢
  replace hl : lv_has ls 4 [(0, .ref aU0), (1, .int v1), (2, .ref qo)] := hl
  rw [hAe]
  show W p l e rmL_value s m args below meth c s.heap [] 0 0 _ (F0 m 0 ls [])
  refine lv_aload_n hx hb dL_value_0 rfl (lv_at hl 2 rfl) ?_
  refine lv_iconst (v := 0) hx hb dL_value_1 (by decide) ?_
  refine lv_aload_n hx hb dL_value_2 rfl (lv_at hl 0 rfl) ?_
  refine lv_iload_n hx hb dL_value_3 rfl (lv_at hl 1 rfl) ?_
  have hFc := vs_free (vd_r hD) hS hA
  refine xc_lG (va_runV (As := [.int v1]) (rest := [.int 0, .ref qo]) ⟨hx, hb, hml, hown, hts⟩ (hM s.heap.size) (cwV 1 hts gL_value_X6_value rfl rfl rfl (by decide +kernel) ⟨Nat.le_of_ble_eq_true rfl, Nat.le_of_ble_eq_true rfl⟩) ⟨pn_blind, va_recv hK (vs_r hP) (ci := 6) (q0 := 0) rfl hb0, pn_start (vs_r hP) hK (vd_r hD) hNW⟩ rfl rfl hl.1 rfl (lv_room (Nat.le_of_ble_eq_true rfl)) dL_value_4 ⟨Nat.zero_le _, Nat.zero_le _⟩) hS hFc (fun u H1 locs hP1 hD1 hk1 hS => ?_)
  obtain ⟨hP, hD⟩ := vs_joinR hP hD hFc hk1 hP1 hD1
  clear hP1 hD1 hk1 hFc
  refine va_last hx hb hK hP hD hS 0 1 rfl rfl (vp_in_nI (n := 0) (N := 1) (by decide) (by decide)) dL_value_7 (fun H locs hP hD hS => ?_)
  replace hP : va_P D vwCl (wo k qo (vp_updL f 0 r) ++ wb' u) H := hP
  replace hD : va_D A (wo k qo (vp_updL f 0 r) ++ wb' u) := hD
  refine lv_goto (tgt := 14) hx hb dL_value_8 (by decide) ?_
  refine lv_iconst (v := 0) hx hb dL_value_14 (by decide) ?_
  exact vx_ret (W.iret hx hb hr (fun t ht hW => ⟨⟨_, u, rfl, rfl, by rw [ht]; exact hP, va_K.moved hW.alike hK, hD⟩, hS.F ht⟩) hS.2.2 dL_value_15)
set_option maxHeartbeats 4000000 in
set_option maxRecDepth 100000 in
theorem law_value_x1 (l : Launch) (D : va_G) (k : Nat → ClassId) (wb : va_W) (aU0 : Nat) (fs : List Value) (hb0 : wb[0]? = some (aU0, .inr (6, fs))) (qo : Nat) (sz : Nat) (v1 : Int32) (hM : ∀ sz : Nat, vx_Met l yX6_value wsX6_value rmTX6_value (va_Pc [.ref aU0, .int v1] (PreX D k wb sz)) NQ (XQ D k wb sz exI) 1 6 (va_A wb sz)) : vx_Met l yL_value wsL_value rmLT_value (va_Pc [.ref aU0, .int v1, .ref qo] (PreY D k wb sz)) (va_Qi (fun r9 (_ : Unit) => r9 = 1) (fun _ t => PostW D k (va_A wb sz) wb t) (va_A wb sz)) NX 1 6 (va_A wb sz) := by
  refine vx_ofWH (cc := cL_value) (maxL := 4) (ret := (some .int)) (hh := [(0, 8, 11, 13)]) (by decide) rfl ?_
  intro p e s m args below meth c s₁ B hml hv
  obtain ⟨hav, ⟨⟨hsz, hP, hK, hD0⟩, hXP⟩, hXN⟩ := hv
  have hx := B.exec
  have hb := B.bytes
  have hr := B.returns
  have hts := atoms_spec (ws := wsL_value) B.pre
  have hown : s.vm.findClass RL = some m.cls := findClass_of_methodNamed B.named
  have hlocks := B.notSynchronized
  subst hsz
  have hD := hD0.self (sz := s.heap.size)
  clear hD0
  obtain ⟨A, hAe⟩ : ∃ A, va_A wb s.heap.size = A := ⟨_, rfl⟩
  rw [hAe] at hD hXP
  have hA : ∀ q : Nat, s.heap.size ≤ q → A q := fun q h => by rw [← hAe]; exact Or.inr h
  have hS : va_S A s.heap s.heap [] := va_S.rf
  have hl := lv_entry ([.ref aU0, .int v1, .ref qo]) (n := 4) (Nat.le_of_ble_eq_true rfl)
  rw [show entryFrame m args 4 = entryFrame m ([.ref aU0, .int v1, .ref qo] : List Value).toArray 4 from by rw [hav], lg_entry_eq]
  generalize (lg_sl ([.ref aU0, .int v1, .ref qo]) ++ List.replicate (4 - (lg_sl ([.ref aU0, .int v1, .ref qo])).length) Slot.unset).toArray = ls at hl ⊢
  replace hl : lv_has ls 4 [(0, .ref aU0), (1, .int v1), (2, .ref qo)] := hl
  rw [hAe]
  show W p l e rmLT_value s m args below meth c s.heap [] 0 0 _ (F0 m 0 ls [])
  have htab : c.exceptionTable.toList = [⟨0, 8, 11, 13⟩] := vx_table (x := yL_value) B (hts (.codeWith yL_value cL_value 4 (some .int) [(0, 8, 11, 13)]) List.mem_cons_self)
  refine lv_aload_n hx hb dL_value_0 rfl (lv_at hl 2 rfl) ?_
  refine lv_iconst (v := 0) hx hb dL_value_1 (by decide) ?_
  refine lv_aload_n hx hb dL_value_2 rfl (lv_at hl 0 rfl) ?_
  refine lv_iload_n hx hb dL_value_3 rfl (lv_at hl 1 rfl) ?_
  have hFc := vs_free hD hS hA
  refine xt_c (vx_runV (As := [.int v1]) (rest := [.int 0, .ref qo]) ⟨hx, hb, hml, hown, hts⟩ (hM s.heap.size) (cwV 1 hts gL_value_X6_value rfl rfl rfl (by decide +kernel) ⟨Nat.le_of_ble_eq_true rfl, Nat.le_of_ble_eq_true rfl⟩) ⟨px_blind, va_recv hK hP (ci := 6) (q0 := 0) rfl hb0, px_start hP hK hD hXP hFc⟩ rfl rfl hl.1 rfl (lv_room (Nat.le_of_ble_eq_true rfl)) dL_value_4 ⟨Nat.le_refl _, Nat.le_refl _⟩) hS hFc (fun ce q9 H1 locs hP1 hD1 hk1 hS hc1 hc2 hc3 => ?_)
  refine vx_catch (name := exI) (E := exI) hown [] ⟨0, 8, 11, 13⟩ [] htab (fun z hz => nomatch hz) rfl (by decide) (hts (.classLink RL 13 exI) (by decide +kernel)) (va_Nw.use rfl (hXP.2.2.2.1 exI (by decide +kernel))) hc1 hc2 hc3 ?_
  show W p l e rmLT_value s m args below meth c H1 locs 1 6 _ (F0 m 11 ls [.ref q9])
  refine lv_astore_n (lv' := [(3, .ref q9), (0, .ref aU0), (1, .int v1), (2, .ref qo)]) hx hb dL_value_11 rfl hl (by decide) rfl (fun ls hl => ?_)
  refine lv_iconst (v := 1) hx hb dL_value_12 (by decide) ?_
  have hD2 : va_D A wb := hD
  exact vx_ret (W.iret hx hb hr (fun t ht hW => ⟨⟨_, (), rfl, rfl, by rw [ht]; exact hP1, va_K.moved hW.alike hK, hD2⟩, hS.F ht⟩) (fun z hz => hS.2.2 z hz) dL_value_13)
