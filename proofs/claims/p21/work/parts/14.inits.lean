theorem va_newaQ {p : Program} {l : Launch} {e : Env} {R : Room} {s : State} {m : MethodId} {args : Array Value} {below : List Frame} {meth : Method} {c : Code} {H : Heap} {locs : List Loc} {cells slots : Nat} {Q : State → Prop} {cc : ByteArray} {pc : Nat} {ls : Array Slot} {rest : List Value} {D : va_G} {cl : List vw_C} {tys : List (ClassId × FieldType)} {ws : va_W} {A : Nat → Prop} {H0 : Heap} (hexec : p.tables.exec = Jvm.exec) (hb : c.code = cc) {atype : ArrayType} (harr : (Cond.arrayClass (newarray.typeOf atype)).before args s = true) {ty : FieldType} (hty : newarray.typeOf atype = ty) (hK : va_K D cl tys s) {t0 : Nat} {cK : ClassId} (ht : tys[t0]? = some (cK, ty)) (hP : va_P D cl ws H) (hD : va_D A ws) (hS : va_S A H0 H locs) (hA : ∀ q, H0.size ≤ q → A q)
    {n : Int32} {N' : Nat} {a0 : vp_A} (ha : ∀ cA : ClassId, vp_cell cA a0 = arrV cA N' (fun _ => defaultValue ty)) (hn : ¬ n < 0) (hN : n.toNatClampNeg = N') (hbytes : N' * componentBytes ty ≤ 536870912) (hcells : cells + 1 ≤ R.cells) (hslots : slots + N' ≤ R.slots) (hdg : decode cc pc = .ok (.newarray atype, 2))
    (kk : ∀ (q : Nat) (H1 : Heap), va_P D cl (ws ++ [(q, .inl (cK, a0))]) H1 → va_D A (ws ++ [(q, .inl (cK, a0))]) → va_S A H0 H1 locs →
      W p l e R s m args below meth c H1 locs (cells + 1) (slots + N') Q (F0 m (pc + 2) ls (.ref q :: rest))) : W p l e R s m args below meth c H locs cells slots Q (F0 m pc ls (.int n :: rest)) := by
  refine va_newa hexec hb harr hty hK hP hD hS hA ha hn hN hbytes hcells hslots hdg (fun q cA H1 hK1 hP1 hD1 hS1 => ?_)
  have e1 := (hK.2 t0 _ ht).2
  have e2 := (hK1.2 tys.length (cA, ty) (by simp)).2
  have e3 : cA = cK := by
    subst hty
    cases atype <;> exact Option.some.inj (e2.symm.trans e1)
  subst e3
  exact kk q H1 hP1 hD1 hS1
abbrev rmX0_init : Room := { frames := 1, cells := 2, slots := 12, locals := 12 }
set_option maxHeartbeats 4000000 in
set_option maxRecDepth 100000 in
theorem met_X0_init (l : Launch) (D : va_G) (k : Nat → ClassId) (h0 sz : Nat) : Met l yX0_init wsX0_init rmX0_init (va_Pc [.ref h0] (PreW D k [(h0, .inr (0, [.null, .null, .long 0, .long 0]))] sz)) (va_Qv (fun u : Nat → Nat => u 0 = h0) (fun u t => PostW D k (va_A [(h0, .inr (0, [.null, .null, .long 0, .long 0]))] sz) (wB k u (fun _ => 0) (fun _ => 0) 0 0) t) (va_A [(h0, .inr (0, [.null, .null, .long 0, .long 0]))] sz)) 2 12 (va_A [(h0, .inr (0, [.null, .null, .long 0, .long 0]))] sz) := by
  refine Met.ofW (cc := cX0_init) (maxL := 1) (ret := none) (by decide) rfl ?_
  intro p e s m args below meth c s₁ B hml hv
  obtain ⟨hav, hsz, hP, hK, hD0⟩ := hv
  have hx := B.exec
  have hb := B.bytes
  have hr := B.returns
  have hts := atoms_spec (ws := wsX0_init) B.pre
  have hown : s.vm.findClass RX0 = some m.cls := findClass_of_methodNamed B.named
  have hlocks := B.notSynchronized
  have hin : meth.name = "<init>" := (name_of_methodNamed B.named B.method).1
  subst hsz
  have hD := hD0.self (sz := s.heap.size)
  clear hD0
  generalize hAe : va_A [(h0, .inr (0, [.null, .null, .long 0, .long 0]))] s.heap.size = A at hD ⊢
  have hA : ∀ q : Nat, s.heap.size ≤ q → A q := fun q h => by rw [← hAe]; exact Or.inr h
  have hS : va_S A s.heap s.heap [] := va_S.rf
  have hl := lv_entry ([.ref h0]) (n := 1) (Nat.le_of_ble_eq_true rfl)
  rw [show entryFrame m args 1 = entryFrame m ([.ref h0] : List Value).toArray 1 from by rw [hav], lg_entry_eq]
  generalize (lg_sl ([.ref h0]) ++ List.replicate (1 - (lg_sl ([.ref h0])).length) Slot.unset).toArray = ls at hl ⊢
  replace hl : lv_has ls 1 [(0, .ref h0)] := hl
  have f9 := hts (.fieldLink RX0 9 "UncertainBook$Budget" "slopes" "[J") (by decide +kernel)
  have f15 := hts (.fieldLink RX0 15 "UncertainBook$Budget" "contributions" "[J") (by decide +kernel)
  have f18 := hts (.fieldLink RX0 18 "UncertainBook$Budget" "variance" "J") (by decide +kernel)
  have f22 := hts (.fieldLink RX0 22 "UncertainBook$Budget" "degreesSum" "J") (by decide +kernel)
  have iX0 : ∀ w ∈ u_ws RX0 TX0 4, w ∈ wsX0_init := by decide +kernel
  refine lv_aload_n hx hb dX0_init_0 rfl (lv_at hl 0 rfl) ?_
  refine W.objInit hx hb hown (hts (.methodLink RX0 3 objectInit) (by decide +kernel)) (hts (.instanceMethod objectInit) (by decide +kernel)) (hts (.code objectInit ⟨#[0xb1]⟩ 1 none) (by decide +kernel)) rfl (by rw [hml]; exact hl.1) rfl dX0_init_1 (Nat.le_of_ble_eq_true rfl) (Nat.le_of_ble_eq_true rfl) ?_
  refine W.eq (g2 := F0 m 4 ls []) rfl ?_
  refine lv_aload_n hx hb dX0_init_4 rfl (lv_at hl 0 rfl) ?_
  refine lv_bipush (v := 6) hx hb dX0_init_5 (by decide) ?_
  refine va_newaQ (atype := .long) (ty := .long) (t0 := 1) (a0 := (6, .inr (.inl (fun _ => 0)))) hx hb (hts (.arrayClass .long) (by decide +kernel)) rfl hK rfl hP hD hS hA (fun _ => rfl) (by decide) (by decide) (Nat.le_of_ble_eq_true rfl) (Nat.le_of_ble_eq_true rfl) (Nat.le_of_ble_eq_true rfl) dX0_init_7 (fun q1 H hP hD hS => ?_)
  replace hP : va_P D vwCl [(h0, .inr (0, [.null, .null, .long 0, .long 0])), (q1, .inl (k 1, 6, .inr (.inl (fun _ => 0))))] H := hP
  replace hD : va_D A [(h0, .inr (0, [.null, .null, .long 0, .long 0])), (q1, .inl (k 1, 6, .inr (.inl (fun _ => 0))))] := hD
  refine W.widen (k := 1) (n := 6) (Nat.le_of_ble_eq_true rfl) (Nat.le_of_ble_eq_true rfl) ?_
  refine va_putF (D := D) (ci := 0) (v := .ref q1) (ty := .array .long) (C := RX0) (T := TX0) (N := 4) hx hb hts iX0 tyX0 tyX0_ok nmX0 hown hK hP hD hS 0 rfl rfl 0 (by decide) f9 (fun _ h9 => h9) rfl hin rfl (by decide +kernel) rfl rfl (Nat.le_of_ble_eq_true rfl) dX0_init_9 (fun H locs hP hD hS => ?_)
  replace hP : va_P D vwCl [(h0, .inr (0, [.ref q1, .null, .long 0, .long 0])), (q1, .inl (k 1, 6, .inr (.inl (fun _ => 0))))] H := hP
  replace hD : va_D A [(h0, .inr (0, [.ref q1, .null, .long 0, .long 0])), (q1, .inl (k 1, 6, .inr (.inl (fun _ => 0))))] := hD
  refine lv_aload_n hx hb dX0_init_12 rfl (lv_at hl 0 rfl) ?_
  refine lv_bipush (v := 6) hx hb dX0_init_13 (by decide) ?_
  refine va_newaQ (atype := .long) (ty := .long) (t0 := 1) (a0 := (6, .inr (.inl (fun _ => 0)))) hx hb (hts (.arrayClass .long) (by decide +kernel)) rfl hK rfl hP hD hS hA (fun _ => rfl) (by decide) (by decide) (Nat.le_of_ble_eq_true rfl) (Nat.le_of_ble_eq_true rfl) (Nat.le_of_ble_eq_true rfl) dX0_init_15 (fun q2 H hP hD hS => ?_)
  replace hP : va_P D vwCl [(h0, .inr (0, [.ref q1, .null, .long 0, .long 0])), (q1, .inl (k 1, 6, .inr (.inl (fun _ => 0)))), (q2, .inl (k 1, 6, .inr (.inl (fun _ => 0))))] H := hP
  replace hD : va_D A [(h0, .inr (0, [.ref q1, .null, .long 0, .long 0])), (q1, .inl (k 1, 6, .inr (.inl (fun _ => 0)))), (q2, .inl (k 1, 6, .inr (.inl (fun _ => 0))))] := hD
  refine W.widen (k := 2) (n := 12) (Nat.le_of_ble_eq_true rfl) (Nat.le_of_ble_eq_true rfl) ?_
  refine va_putF (D := D) (ci := 0) (v := .ref q2) (ty := .array .long) (C := RX0) (T := TX0) (N := 4) hx hb hts iX0 tyX0 tyX0_ok nmX0 hown hK hP hD hS 0 rfl rfl 1 (by decide) f15 (fun _ h9 => h9) rfl hin rfl (by decide +kernel) rfl rfl (Nat.le_of_ble_eq_true rfl) dX0_init_17 (fun H locs hP hD hS => ?_)
  replace hP : va_P D vwCl [(h0, .inr (0, [.ref q1, .ref q2, .long 0, .long 0])), (q1, .inl (k 1, 6, .inr (.inl (fun _ => 0)))), (q2, .inl (k 1, 6, .inr (.inl (fun _ => 0))))] H := hP
  replace hD : va_D A [(h0, .inr (0, [.ref q1, .ref q2, .long 0, .long 0])), (q1, .inl (k 1, 6, .inr (.inl (fun _ => 0)))), (q2, .inl (k 1, 6, .inr (.inl (fun _ => 0))))] := hD
  refine lv_aload_n hx hb dX0_init_20 rfl (lv_at hl 0 rfl) ?_
  refine lv_lconst (v := 0) hx hb dX0_init_21 (by decide) ?_
  refine va_put (D := D) (ci := 0) (v := .long 0) (ty := .long) (C := RX0) (T := TX0) (N := 4) hx hb hts iX0 tyX0 tyX0_ok nmX0 hown hK hP hD hS 0 rfl rfl 2 (by decide) f18 (fun _ h9 => h9) rfl (by decide +kernel) rfl rfl (Nat.le_of_ble_eq_true rfl) dX0_init_22 (fun H locs hP hD hS => ?_)
  replace hP : va_P D vwCl [(h0, .inr (0, [.ref q1, .ref q2, .long 0, .long 0])), (q1, .inl (k 1, 6, .inr (.inl (fun _ => 0)))), (q2, .inl (k 1, 6, .inr (.inl (fun _ => 0))))] H := hP
  replace hD : va_D A [(h0, .inr (0, [.ref q1, .ref q2, .long 0, .long 0])), (q1, .inl (k 1, 6, .inr (.inl (fun _ => 0)))), (q2, .inl (k 1, 6, .inr (.inl (fun _ => 0))))] := hD
  refine lv_aload_n hx hb dX0_init_25 rfl (lv_at hl 0 rfl) ?_
  refine lv_lconst (v := 0) hx hb dX0_init_26 (by decide) ?_
  refine va_put (D := D) (ci := 0) (v := .long 0) (ty := .long) (C := RX0) (T := TX0) (N := 4) hx hb hts iX0 tyX0 tyX0_ok nmX0 hown hK hP hD hS 0 rfl rfl 3 (by decide) f22 (fun _ h9 => h9) rfl (by decide +kernel) rfl rfl (Nat.le_of_ble_eq_true rfl) dX0_init_27 (fun H locs hP hD hS => ?_)
  replace hP : va_P D vwCl [(h0, .inr (0, [.ref q1, .ref q2, .long 0, .long 0])), (q1, .inl (k 1, 6, .inr (.inl (fun _ => 0)))), (q2, .inl (k 1, 6, .inr (.inl (fun _ => 0))))] H := hP
  replace hD : va_D A [(h0, .inr (0, [.ref q1, .ref q2, .long 0, .long 0])), (q1, .inl (k 1, 6, .inr (.inl (fun _ => 0)))), (q2, .inl (k 1, 6, .inr (.inl (fun _ => 0))))] := hD
  have hPf : va_P D vwCl (wB k (fun i => [h0, q1, q2].getD i 0) (fun _ => 0) (fun _ => 0) 0 0) H := hP
  have hDf : va_D A (wB k (fun i => [h0, q1, q2].getD i 0) (fun _ => 0) (fun _ => 0) 0 0) := hD
  exact W.vret hx hb hr (fun t ht hW => ⟨⟨(fun i => [h0, q1, q2].getD i 0), rfl, rfl, by rw [ht]; exact hPf, va_K.moved hW.alike hK, hDf⟩, hS.F ht⟩) hS.2.2 dX0_init_30
abbrev rmX1_init : Room := { frames := 1, cells := 0, slots := 0, locals := 12 }
set_option maxHeartbeats 4000000 in
set_option maxRecDepth 100000 in
theorem met_X1_init (l : Launch) (D : va_G) (k : Nat → ClassId) (h0 sz : Nat) : Met l yX1_init wsX1_init rmX1_init (va_Pc [.ref h0] (PreW D k [(h0, .inr (1, [.int 0]))] sz)) (va_Qv (fun u : Nat → Nat => u 0 = h0) (fun u t => PostW D k (va_A [(h0, .inr (1, [.int 0]))] sz) (wC k u 1) t) (va_A [(h0, .inr (1, [.int 0]))] sz)) 0 0 (va_A [(h0, .inr (1, [.int 0]))] sz) := by
  refine Met.ofW (cc := cX1_init) (maxL := 1) (ret := none) (by decide) rfl ?_
  intro p e s m args below meth c s₁ B hml hv
  obtain ⟨hav, hsz, hP, hK, hD0⟩ := hv
  have hx := B.exec
  have hb := B.bytes
  have hr := B.returns
  have hts := atoms_spec (ws := wsX1_init) B.pre
  have hown : s.vm.findClass RX1 = some m.cls := findClass_of_methodNamed B.named
  have hlocks := B.notSynchronized
  have hin : meth.name = "<init>" := (name_of_methodNamed B.named B.method).1
  subst hsz
  have hD := hD0.self (sz := s.heap.size)
  clear hD0
  generalize hAe : va_A [(h0, .inr (1, [.int 0]))] s.heap.size = A at hD ⊢
  have hA : ∀ q : Nat, s.heap.size ≤ q → A q := fun q h => by rw [← hAe]; exact Or.inr h
  have hS : va_S A s.heap s.heap [] := va_S.rf
  have hl := lv_entry ([.ref h0]) (n := 1) (Nat.le_of_ble_eq_true rfl)
  rw [show entryFrame m args 1 = entryFrame m ([.ref h0] : List Value).toArray 1 from by rw [hav], lg_entry_eq]
  generalize (lg_sl ([.ref h0]) ++ List.replicate (1 - (lg_sl ([.ref h0])).length) Slot.unset).toArray = ls at hl ⊢
  replace hl : lv_has ls 1 [(0, .ref h0)] := hl
  have f7 := hts (.fieldLink RX1 7 "UncertainBook$Chance" "x" "I") (by decide +kernel)
  have iX1 : ∀ w ∈ u_ws RX1 TX1 1, w ∈ wsX1_init := by decide +kernel
  refine lv_aload_n hx hb dX1_init_0 rfl (lv_at hl 0 rfl) ?_
  refine W.objInit hx hb hown (hts (.methodLink RX1 1 objectInit) (by decide +kernel)) (hts (.instanceMethod objectInit) (by decide +kernel)) (hts (.code objectInit ⟨#[0xb1]⟩ 1 none) (by decide +kernel)) rfl (by rw [hml]; exact hl.1) rfl dX1_init_1 (Nat.le_of_ble_eq_true rfl) (Nat.le_of_ble_eq_true rfl) ?_
  refine W.eq (g2 := F0 m 4 ls []) rfl ?_
  refine lv_aload_n hx hb dX1_init_4 rfl (lv_at hl 0 rfl) ?_
  refine lv_iconst (v := 1) hx hb dX1_init_5 (by decide) ?_
  refine va_put (D := D) (ci := 1) (v := .int 1) (ty := .int) (C := RX1) (T := TX1) (N := 1) hx hb hts iX1 tyX1 tyX1_ok nmX1 hown hK hP hD hS 0 rfl rfl 0 (by decide) f7 (fun _ h9 => h9) rfl (by decide +kernel) rfl rfl (Nat.le_of_ble_eq_true rfl) dX1_init_6 (fun H locs hP hD hS => ?_)
  replace hP : va_P D vwCl [(h0, .inr (1, [.int 1]))] H := hP
  replace hD : va_D A [(h0, .inr (1, [.int 1]))] := hD
  have hPf : va_P D vwCl (wC k (fun i => [h0].getD i 0) 1) H := hP
  have hDf : va_D A (wC k (fun i => [h0].getD i 0) 1) := hD
  exact W.vret hx hb hr (fun t ht hW => ⟨⟨(fun i => [h0].getD i 0), rfl, rfl, by rw [ht]; exact hPf, va_K.moved hW.alike hK, hDf⟩, hS.F ht⟩) hS.2.2 dX1_init_9
abbrev rmX2_init : Room := { frames := 1, cells := 2, slots := 24, locals := 12 }
set_option maxHeartbeats 4000000 in
set_option maxRecDepth 100000 in
theorem met_X2_init (l : Launch) (D : va_G) (k : Nat → ClassId) (h0 sz : Nat) : Met l yX2_init wsX2_init rmX2_init (va_Pc [.ref h0] (PreW D k [(h0, .inr (2, [.null, .null, .int 0]))] sz)) (va_Qv (fun u : Nat → Nat => u 0 = h0) (fun u t => PostW D k (va_A [(h0, .inr (2, [.null, .null, .int 0]))] sz) (wV k u (upd (fun _ => 0) 0 1) (upd (fun _ => 0) 0 200) 1) t) (va_A [(h0, .inr (2, [.null, .null, .int 0]))] sz)) 2 24 (va_A [(h0, .inr (2, [.null, .null, .int 0]))] sz) := by
  refine Met.ofW (cc := cX2_init) (maxL := 1) (ret := none) (by decide) rfl ?_
  intro p e s m args below meth c s₁ B hml hv
  obtain ⟨hav, hsz, hP, hK, hD0⟩ := hv
  have hx := B.exec
  have hb := B.bytes
  have hr := B.returns
  have hts := atoms_spec (ws := wsX2_init) B.pre
  have hown : s.vm.findClass RX2 = some m.cls := findClass_of_methodNamed B.named
  have hlocks := B.notSynchronized
  have hin : meth.name = "<init>" := (name_of_methodNamed B.named B.method).1
  subst hsz
  have hD := hD0.self (sz := s.heap.size)
  clear hD0
  generalize hAe : va_A [(h0, .inr (2, [.null, .null, .int 0]))] s.heap.size = A at hD ⊢
  have hA : ∀ q : Nat, s.heap.size ≤ q → A q := fun q h => by rw [← hAe]; exact Or.inr h
  have hS : va_S A s.heap s.heap [] := va_S.rf
  have hl := lv_entry ([.ref h0]) (n := 1) (Nat.le_of_ble_eq_true rfl)
  rw [show entryFrame m args 1 = entryFrame m ([.ref h0] : List Value).toArray 1 from by rw [hav], lg_entry_eq]
  generalize (lg_sl ([.ref h0]) ++ List.replicate (1 - (lg_sl ([.ref h0])).length) Slot.unset).toArray = ls at hl ⊢
  replace hl : lv_has ls 1 [(0, .ref h0)] := hl
  have f9 := hts (.fieldLink RX2 9 "UncertainBook$Coverage" "degrees" "[I") (by decide +kernel)
  have f15 := hts (.fieldLink RX2 15 "UncertainBook$Coverage" "factors" "[I") (by decide +kernel)
  have f18 := hts (.fieldLink RX2 18 "UncertainBook$Coverage" "count" "I") (by decide +kernel)
  have iX2 : ∀ w ∈ u_ws RX2 TX2 3, w ∈ wsX2_init := by decide +kernel
  refine lv_aload_n hx hb dX2_init_0 rfl (lv_at hl 0 rfl) ?_
  refine W.objInit hx hb hown (hts (.methodLink RX2 3 objectInit) (by decide +kernel)) (hts (.instanceMethod objectInit) (by decide +kernel)) (hts (.code objectInit ⟨#[0xb1]⟩ 1 none) (by decide +kernel)) rfl (by rw [hml]; exact hl.1) rfl dX2_init_1 (Nat.le_of_ble_eq_true rfl) (Nat.le_of_ble_eq_true rfl) ?_
  refine W.eq (g2 := F0 m 4 ls []) rfl ?_
  refine lv_aload_n hx hb dX2_init_4 rfl (lv_at hl 0 rfl) ?_
  refine lv_bipush (v := 12) hx hb dX2_init_5 (by decide) ?_
  refine va_newaQ (atype := .int) (ty := .int) (t0 := 0) (a0 := (12, .inl (fun _ => 0))) hx hb (hts (.arrayClass .int) (by decide +kernel)) rfl hK rfl hP hD hS hA (fun _ => rfl) (by decide) (by decide) (Nat.le_of_ble_eq_true rfl) (Nat.le_of_ble_eq_true rfl) (Nat.le_of_ble_eq_true rfl) dX2_init_7 (fun q1 H hP hD hS => ?_)
  replace hP : va_P D vwCl [(h0, .inr (2, [.null, .null, .int 0])), (q1, .inl (k 0, 12, .inl (fun _ => 0)))] H := hP
  replace hD : va_D A [(h0, .inr (2, [.null, .null, .int 0])), (q1, .inl (k 0, 12, .inl (fun _ => 0)))] := hD
  refine W.widen (k := 1) (n := 12) (Nat.le_of_ble_eq_true rfl) (Nat.le_of_ble_eq_true rfl) ?_
  refine va_putF (D := D) (ci := 2) (v := .ref q1) (ty := .array .int) (C := RX2) (T := TX2) (N := 3) hx hb hts iX2 tyX2 tyX2_ok nmX2 hown hK hP hD hS 0 rfl rfl 0 (by decide) f9 (fun _ h9 => h9) rfl hin rfl (by decide +kernel) rfl rfl (Nat.le_of_ble_eq_true rfl) dX2_init_9 (fun H locs hP hD hS => ?_)
  replace hP : va_P D vwCl [(h0, .inr (2, [.ref q1, .null, .int 0])), (q1, .inl (k 0, 12, .inl (fun _ => 0)))] H := hP
  replace hD : va_D A [(h0, .inr (2, [.ref q1, .null, .int 0])), (q1, .inl (k 0, 12, .inl (fun _ => 0)))] := hD
  refine lv_aload_n hx hb dX2_init_12 rfl (lv_at hl 0 rfl) ?_
  refine lv_bipush (v := 12) hx hb dX2_init_13 (by decide) ?_
  refine va_newaQ (atype := .int) (ty := .int) (t0 := 0) (a0 := (12, .inl (fun _ => 0))) hx hb (hts (.arrayClass .int) (by decide +kernel)) rfl hK rfl hP hD hS hA (fun _ => rfl) (by decide) (by decide) (Nat.le_of_ble_eq_true rfl) (Nat.le_of_ble_eq_true rfl) (Nat.le_of_ble_eq_true rfl) dX2_init_15 (fun q2 H hP hD hS => ?_)
  replace hP : va_P D vwCl [(h0, .inr (2, [.ref q1, .null, .int 0])), (q1, .inl (k 0, 12, .inl (fun _ => 0))), (q2, .inl (k 0, 12, .inl (fun _ => 0)))] H := hP
  replace hD : va_D A [(h0, .inr (2, [.ref q1, .null, .int 0])), (q1, .inl (k 0, 12, .inl (fun _ => 0))), (q2, .inl (k 0, 12, .inl (fun _ => 0)))] := hD
  refine W.widen (k := 2) (n := 24) (Nat.le_of_ble_eq_true rfl) (Nat.le_of_ble_eq_true rfl) ?_
  refine va_putF (D := D) (ci := 2) (v := .ref q2) (ty := .array .int) (C := RX2) (T := TX2) (N := 3) hx hb hts iX2 tyX2 tyX2_ok nmX2 hown hK hP hD hS 0 rfl rfl 1 (by decide) f15 (fun _ h9 => h9) rfl hin rfl (by decide +kernel) rfl rfl (Nat.le_of_ble_eq_true rfl) dX2_init_17 (fun H locs hP hD hS => ?_)
  replace hP : va_P D vwCl [(h0, .inr (2, [.ref q1, .ref q2, .int 0])), (q1, .inl (k 0, 12, .inl (fun _ => 0))), (q2, .inl (k 0, 12, .inl (fun _ => 0)))] H := hP
  replace hD : va_D A [(h0, .inr (2, [.ref q1, .ref q2, .int 0])), (q1, .inl (k 0, 12, .inl (fun _ => 0))), (q2, .inl (k 0, 12, .inl (fun _ => 0)))] := hD
  refine lv_aload_n hx hb dX2_init_20 rfl (lv_at hl 0 rfl) ?_
  refine va_get (D := D) (ci := 2) (v := .ref q1) (C := RX2) (T := TX2) (N := 3) hx hb hts iX2 hown hK hP 0 rfl rfl 0 (by decide) f9 (fun _ h9 => h9) rfl dX2_init_21 ?_
  refine lv_iconst (v := 0) hx hb dX2_init_24 (by decide) ?_
  refine lv_iconst (v := 1) hx hb dX2_init_25 (by decide) ?_
  refine va_iast hx hb hK hP hD hS 1 0 rfl rfl (vp_in_nI (n := 0) (N := 12) (by decide) (by decide)) dX2_init_26 (fun H locs hP hD hS => ?_)
  replace hP : va_P D vwCl [(h0, .inr (2, [.ref q1, .ref q2, .int 0])), (q1, .inl (k 0, 12, .inl (upd (fun _ => 0) 0 1))), (q2, .inl (k 0, 12, .inl (fun _ => 0)))] H := hP
  replace hD : va_D A [(h0, .inr (2, [.ref q1, .ref q2, .int 0])), (q1, .inl (k 0, 12, .inl (upd (fun _ => 0) 0 1))), (q2, .inl (k 0, 12, .inl (fun _ => 0)))] := hD
  refine lv_aload_n hx hb dX2_init_27 rfl (lv_at hl 0 rfl) ?_
  refine va_get (D := D) (ci := 2) (v := .ref q2) (C := RX2) (T := TX2) (N := 3) hx hb hts iX2 hown hK hP 0 rfl rfl 1 (by decide) f15 (fun _ h9 => h9) rfl dX2_init_28 ?_
  refine lv_iconst (v := 0) hx hb dX2_init_31 (by decide) ?_
  refine lv_sipush (v := 200) hx hb dX2_init_32 (by decide) ?_
  refine va_iast hx hb hK hP hD hS 2 0 rfl rfl (vp_in_nI (n := 0) (N := 12) (by decide) (by decide)) dX2_init_35 (fun H locs hP hD hS => ?_)
  replace hP : va_P D vwCl [(h0, .inr (2, [.ref q1, .ref q2, .int 0])), (q1, .inl (k 0, 12, .inl (upd (fun _ => 0) 0 1))), (q2, .inl (k 0, 12, .inl (upd (fun _ => 0) 0 200)))] H := hP
  replace hD : va_D A [(h0, .inr (2, [.ref q1, .ref q2, .int 0])), (q1, .inl (k 0, 12, .inl (upd (fun _ => 0) 0 1))), (q2, .inl (k 0, 12, .inl (upd (fun _ => 0) 0 200)))] := hD
  refine lv_aload_n hx hb dX2_init_36 rfl (lv_at hl 0 rfl) ?_
  refine lv_iconst (v := 1) hx hb dX2_init_37 (by decide) ?_
  refine va_put (D := D) (ci := 2) (v := .int 1) (ty := .int) (C := RX2) (T := TX2) (N := 3) hx hb hts iX2 tyX2 tyX2_ok nmX2 hown hK hP hD hS 0 rfl rfl 2 (by decide) f18 (fun _ h9 => h9) rfl (by decide +kernel) rfl rfl (Nat.le_of_ble_eq_true rfl) dX2_init_38 (fun H locs hP hD hS => ?_)
  replace hP : va_P D vwCl [(h0, .inr (2, [.ref q1, .ref q2, .int 1])), (q1, .inl (k 0, 12, .inl (upd (fun _ => 0) 0 1))), (q2, .inl (k 0, 12, .inl (upd (fun _ => 0) 0 200)))] H := hP
  replace hD : va_D A [(h0, .inr (2, [.ref q1, .ref q2, .int 1])), (q1, .inl (k 0, 12, .inl (upd (fun _ => 0) 0 1))), (q2, .inl (k 0, 12, .inl (upd (fun _ => 0) 0 200)))] := hD
  have hPf : va_P D vwCl (wV k (fun i => [h0, q1, q2].getD i 0) (upd (fun _ => 0) 0 1) (upd (fun _ => 0) 0 200) 1) H := hP
  have hDf : va_D A (wV k (fun i => [h0, q1, q2].getD i 0) (upd (fun _ => 0) 0 1) (upd (fun _ => 0) 0 200) 1) := hD
  exact W.vret hx hb hr (fun t ht hW => ⟨⟨(fun i => [h0, q1, q2].getD i 0), rfl, rfl, by rw [ht]; exact hPf, va_K.moved hW.alike hK, hDf⟩, hS.F ht⟩) hS.2.2 dX2_init_41
abbrev rmX3_init : Room := { frames := 1, cells := 7, slots := 420, locals := 12 }
set_option maxHeartbeats 4000000 in
set_option maxRecDepth 100000 in
theorem met_X3_init (l : Launch) (D : va_G) (k : Nat → ClassId) (h0 sz : Nat) : Met l yX3_init wsX3_init rmX3_init (va_Pc [.ref h0] (PreW D k [(h0, .inr (3, [.null, .null, .null, .null, .null, .null, .null, .int 0, .int 0]))] sz)) (va_Qv (fun u : Nat → Nat => u 0 = h0) (fun u t => PostW D k (va_A [(h0, .inr (3, [.null, .null, .null, .null, .null, .null, .null, .int 0, .int 0]))] sz) (wF k u (fun _ => 0) (fun _ => 0) (fun _ => 0) (fun _ => 0) (fun _ => 0) (fun _ => 0) (fun _ => 0) 0 0) t) (va_A [(h0, .inr (3, [.null, .null, .null, .null, .null, .null, .null, .int 0, .int 0]))] sz)) 7 420 (va_A [(h0, .inr (3, [.null, .null, .null, .null, .null, .null, .null, .int 0, .int 0]))] sz) := by
  refine Met.ofW (cc := cX3_init) (maxL := 1) (ret := none) (by decide) rfl ?_
  intro p e s m args below meth c s₁ B hml hv
  obtain ⟨hav, hsz, hP, hK, hD0⟩ := hv
  have hx := B.exec
  have hb := B.bytes
  have hr := B.returns
  have hts := atoms_spec (ws := wsX3_init) B.pre
  have hown : s.vm.findClass RX3 = some m.cls := findClass_of_methodNamed B.named
  have hlocks := B.notSynchronized
  have hin : meth.name = "<init>" := (name_of_methodNamed B.named B.method).1
  subst hsz
  have hD := hD0.self (sz := s.heap.size)
  clear hD0
  generalize hAe : va_A [(h0, .inr (3, [.null, .null, .null, .null, .null, .null, .null, .int 0, .int 0]))] s.heap.size = A at hD ⊢
  have hA : ∀ q : Nat, s.heap.size ≤ q → A q := fun q h => by rw [← hAe]; exact Or.inr h
  have hS : va_S A s.heap s.heap [] := va_S.rf
  have hl := lv_entry ([.ref h0]) (n := 1) (Nat.le_of_ble_eq_true rfl)
  rw [show entryFrame m args 1 = entryFrame m ([.ref h0] : List Value).toArray 1 from by rw [hav], lg_entry_eq]
  generalize (lg_sl ([.ref h0]) ++ List.replicate (1 - (lg_sl ([.ref h0])).length) Slot.unset).toArray = ls at hl ⊢
  replace hl : lv_has ls 1 [(0, .ref h0)] := hl
  have f9 := hts (.fieldLink RX3 9 "UncertainBook$Formula" "kinds" "[I") (by decide +kernel)
  have f15 := hts (.fieldLink RX3 15 "UncertainBook$Formula" "lefts" "[I") (by decide +kernel)
  have f18 := hts (.fieldLink RX3 18 "UncertainBook$Formula" "rights" "[I") (by decide +kernel)
  have f21 := hts (.fieldLink RX3 21 "UncertainBook$Formula" "places" "[I") (by decide +kernel)
  have f24 := hts (.fieldLink RX3 24 "UncertainBook$Formula" "values" "[J") (by decide +kernel)
  have f28 := hts (.fieldLink RX3 28 "UncertainBook$Formula" "slopes" "[J") (by decide +kernel)
  have f31 := hts (.fieldLink RX3 31 "UncertainBook$Formula" "exponents" "[I") (by decide +kernel)
  have f34 := hts (.fieldLink RX3 34 "UncertainBook$Formula" "size" "I") (by decide +kernel)
  have f38 := hts (.fieldLink RX3 38 "UncertainBook$Formula" "root" "I") (by decide +kernel)
  have iX3 : ∀ w ∈ u_ws RX3 TX3 9, w ∈ wsX3_init := by decide +kernel
  refine lv_aload_n hx hb dX3_init_0 rfl (lv_at hl 0 rfl) ?_
  refine W.objInit hx hb hown (hts (.methodLink RX3 3 objectInit) (by decide +kernel)) (hts (.instanceMethod objectInit) (by decide +kernel)) (hts (.code objectInit ⟨#[0xb1]⟩ 1 none) (by decide +kernel)) rfl (by rw [hml]; exact hl.1) rfl dX3_init_1 (Nat.le_of_ble_eq_true rfl) (Nat.le_of_ble_eq_true rfl) ?_
  refine W.eq (g2 := F0 m 4 ls []) rfl ?_
  refine lv_aload_n hx hb dX3_init_4 rfl (lv_at hl 0 rfl) ?_
  refine lv_bipush (v := 60) hx hb dX3_init_5 (by decide) ?_
  refine va_newaQ (atype := .int) (ty := .int) (t0 := 0) (a0 := (60, .inl (fun _ => 0))) hx hb (hts (.arrayClass .int) (by decide +kernel)) rfl hK rfl hP hD hS hA (fun _ => rfl) (by decide) (by decide) (Nat.le_of_ble_eq_true rfl) (Nat.le_of_ble_eq_true rfl) (Nat.le_of_ble_eq_true rfl) dX3_init_7 (fun q1 H hP hD hS => ?_)
  replace hP : va_P D vwCl [(h0, .inr (3, [.null, .null, .null, .null, .null, .null, .null, .int 0, .int 0])), (q1, .inl (k 0, 60, .inl (fun _ => 0)))] H := hP
  replace hD : va_D A [(h0, .inr (3, [.null, .null, .null, .null, .null, .null, .null, .int 0, .int 0])), (q1, .inl (k 0, 60, .inl (fun _ => 0)))] := hD
  refine W.widen (k := 1) (n := 60) (Nat.le_of_ble_eq_true rfl) (Nat.le_of_ble_eq_true rfl) ?_
  refine va_putF (D := D) (ci := 3) (v := .ref q1) (ty := .array .int) (C := RX3) (T := TX3) (N := 9) hx hb hts iX3 tyX3 tyX3_ok nmX3 hown hK hP hD hS 0 rfl rfl 0 (by decide) f9 (fun _ h9 => h9) rfl hin rfl (by decide +kernel) rfl rfl (Nat.le_of_ble_eq_true rfl) dX3_init_9 (fun H locs hP hD hS => ?_)
  replace hP : va_P D vwCl [(h0, .inr (3, [.ref q1, .null, .null, .null, .null, .null, .null, .int 0, .int 0])), (q1, .inl (k 0, 60, .inl (fun _ => 0)))] H := hP
  replace hD : va_D A [(h0, .inr (3, [.ref q1, .null, .null, .null, .null, .null, .null, .int 0, .int 0])), (q1, .inl (k 0, 60, .inl (fun _ => 0)))] := hD
  refine lv_aload_n hx hb dX3_init_12 rfl (lv_at hl 0 rfl) ?_
  refine lv_bipush (v := 60) hx hb dX3_init_13 (by decide) ?_
  refine va_newaQ (atype := .int) (ty := .int) (t0 := 0) (a0 := (60, .inl (fun _ => 0))) hx hb (hts (.arrayClass .int) (by decide +kernel)) rfl hK rfl hP hD hS hA (fun _ => rfl) (by decide) (by decide) (Nat.le_of_ble_eq_true rfl) (Nat.le_of_ble_eq_true rfl) (Nat.le_of_ble_eq_true rfl) dX3_init_15 (fun q2 H hP hD hS => ?_)
  replace hP : va_P D vwCl [(h0, .inr (3, [.ref q1, .null, .null, .null, .null, .null, .null, .int 0, .int 0])), (q1, .inl (k 0, 60, .inl (fun _ => 0))), (q2, .inl (k 0, 60, .inl (fun _ => 0)))] H := hP
  replace hD : va_D A [(h0, .inr (3, [.ref q1, .null, .null, .null, .null, .null, .null, .int 0, .int 0])), (q1, .inl (k 0, 60, .inl (fun _ => 0))), (q2, .inl (k 0, 60, .inl (fun _ => 0)))] := hD
  refine W.widen (k := 2) (n := 120) (Nat.le_of_ble_eq_true rfl) (Nat.le_of_ble_eq_true rfl) ?_
  refine va_putF (D := D) (ci := 3) (v := .ref q2) (ty := .array .int) (C := RX3) (T := TX3) (N := 9) hx hb hts iX3 tyX3 tyX3_ok nmX3 hown hK hP hD hS 0 rfl rfl 1 (by decide) f15 (fun _ h9 => h9) rfl hin rfl (by decide +kernel) rfl rfl (Nat.le_of_ble_eq_true rfl) dX3_init_17 (fun H locs hP hD hS => ?_)
  replace hP : va_P D vwCl [(h0, .inr (3, [.ref q1, .ref q2, .null, .null, .null, .null, .null, .int 0, .int 0])), (q1, .inl (k 0, 60, .inl (fun _ => 0))), (q2, .inl (k 0, 60, .inl (fun _ => 0)))] H := hP
  replace hD : va_D A [(h0, .inr (3, [.ref q1, .ref q2, .null, .null, .null, .null, .null, .int 0, .int 0])), (q1, .inl (k 0, 60, .inl (fun _ => 0))), (q2, .inl (k 0, 60, .inl (fun _ => 0)))] := hD
  refine lv_aload_n hx hb dX3_init_20 rfl (lv_at hl 0 rfl) ?_
  refine lv_bipush (v := 60) hx hb dX3_init_21 (by decide) ?_
  refine va_newaQ (atype := .int) (ty := .int) (t0 := 0) (a0 := (60, .inl (fun _ => 0))) hx hb (hts (.arrayClass .int) (by decide +kernel)) rfl hK rfl hP hD hS hA (fun _ => rfl) (by decide) (by decide) (Nat.le_of_ble_eq_true rfl) (Nat.le_of_ble_eq_true rfl) (Nat.le_of_ble_eq_true rfl) dX3_init_23 (fun q3 H hP hD hS => ?_)
  replace hP : va_P D vwCl [(h0, .inr (3, [.ref q1, .ref q2, .null, .null, .null, .null, .null, .int 0, .int 0])), (q1, .inl (k 0, 60, .inl (fun _ => 0))), (q2, .inl (k 0, 60, .inl (fun _ => 0))), (q3, .inl (k 0, 60, .inl (fun _ => 0)))] H := hP
  replace hD : va_D A [(h0, .inr (3, [.ref q1, .ref q2, .null, .null, .null, .null, .null, .int 0, .int 0])), (q1, .inl (k 0, 60, .inl (fun _ => 0))), (q2, .inl (k 0, 60, .inl (fun _ => 0))), (q3, .inl (k 0, 60, .inl (fun _ => 0)))] := hD
  refine W.widen (k := 3) (n := 180) (Nat.le_of_ble_eq_true rfl) (Nat.le_of_ble_eq_true rfl) ?_
  refine va_putF (D := D) (ci := 3) (v := .ref q3) (ty := .array .int) (C := RX3) (T := TX3) (N := 9) hx hb hts iX3 tyX3 tyX3_ok nmX3 hown hK hP hD hS 0 rfl rfl 2 (by decide) f18 (fun _ h9 => h9) rfl hin rfl (by decide +kernel) rfl rfl (Nat.le_of_ble_eq_true rfl) dX3_init_25 (fun H locs hP hD hS => ?_)
  replace hP : va_P D vwCl [(h0, .inr (3, [.ref q1, .ref q2, .ref q3, .null, .null, .null, .null, .int 0, .int 0])), (q1, .inl (k 0, 60, .inl (fun _ => 0))), (q2, .inl (k 0, 60, .inl (fun _ => 0))), (q3, .inl (k 0, 60, .inl (fun _ => 0)))] H := hP
  replace hD : va_D A [(h0, .inr (3, [.ref q1, .ref q2, .ref q3, .null, .null, .null, .null, .int 0, .int 0])), (q1, .inl (k 0, 60, .inl (fun _ => 0))), (q2, .inl (k 0, 60, .inl (fun _ => 0))), (q3, .inl (k 0, 60, .inl (fun _ => 0)))] := hD
  refine lv_aload_n hx hb dX3_init_28 rfl (lv_at hl 0 rfl) ?_
  refine lv_bipush (v := 60) hx hb dX3_init_29 (by decide) ?_
  refine va_newaQ (atype := .int) (ty := .int) (t0 := 0) (a0 := (60, .inl (fun _ => 0))) hx hb (hts (.arrayClass .int) (by decide +kernel)) rfl hK rfl hP hD hS hA (fun _ => rfl) (by decide) (by decide) (Nat.le_of_ble_eq_true rfl) (Nat.le_of_ble_eq_true rfl) (Nat.le_of_ble_eq_true rfl) dX3_init_31 (fun q4 H hP hD hS => ?_)
  replace hP : va_P D vwCl [(h0, .inr (3, [.ref q1, .ref q2, .ref q3, .null, .null, .null, .null, .int 0, .int 0])), (q1, .inl (k 0, 60, .inl (fun _ => 0))), (q2, .inl (k 0, 60, .inl (fun _ => 0))), (q3, .inl (k 0, 60, .inl (fun _ => 0))), (q4, .inl (k 0, 60, .inl (fun _ => 0)))] H := hP
  replace hD : va_D A [(h0, .inr (3, [.ref q1, .ref q2, .ref q3, .null, .null, .null, .null, .int 0, .int 0])), (q1, .inl (k 0, 60, .inl (fun _ => 0))), (q2, .inl (k 0, 60, .inl (fun _ => 0))), (q3, .inl (k 0, 60, .inl (fun _ => 0))), (q4, .inl (k 0, 60, .inl (fun _ => 0)))] := hD
  refine W.widen (k := 4) (n := 240) (Nat.le_of_ble_eq_true rfl) (Nat.le_of_ble_eq_true rfl) ?_
  refine va_putF (D := D) (ci := 3) (v := .ref q4) (ty := .array .int) (C := RX3) (T := TX3) (N := 9) hx hb hts iX3 tyX3 tyX3_ok nmX3 hown hK hP hD hS 0 rfl rfl 3 (by decide) f21 (fun _ h9 => h9) rfl hin rfl (by decide +kernel) rfl rfl (Nat.le_of_ble_eq_true rfl) dX3_init_33 (fun H locs hP hD hS => ?_)
  replace hP : va_P D vwCl [(h0, .inr (3, [.ref q1, .ref q2, .ref q3, .ref q4, .null, .null, .null, .int 0, .int 0])), (q1, .inl (k 0, 60, .inl (fun _ => 0))), (q2, .inl (k 0, 60, .inl (fun _ => 0))), (q3, .inl (k 0, 60, .inl (fun _ => 0))), (q4, .inl (k 0, 60, .inl (fun _ => 0)))] H := hP
  replace hD : va_D A [(h0, .inr (3, [.ref q1, .ref q2, .ref q3, .ref q4, .null, .null, .null, .int 0, .int 0])), (q1, .inl (k 0, 60, .inl (fun _ => 0))), (q2, .inl (k 0, 60, .inl (fun _ => 0))), (q3, .inl (k 0, 60, .inl (fun _ => 0))), (q4, .inl (k 0, 60, .inl (fun _ => 0)))] := hD
  refine lv_aload_n hx hb dX3_init_36 rfl (lv_at hl 0 rfl) ?_
  refine lv_bipush (v := 60) hx hb dX3_init_37 (by decide) ?_
  refine va_newaQ (atype := .long) (ty := .long) (t0 := 1) (a0 := (60, .inr (.inl (fun _ => 0)))) hx hb (hts (.arrayClass .long) (by decide +kernel)) rfl hK rfl hP hD hS hA (fun _ => rfl) (by decide) (by decide) (Nat.le_of_ble_eq_true rfl) (Nat.le_of_ble_eq_true rfl) (Nat.le_of_ble_eq_true rfl) dX3_init_39 (fun q5 H hP hD hS => ?_)
  replace hP : va_P D vwCl [(h0, .inr (3, [.ref q1, .ref q2, .ref q3, .ref q4, .null, .null, .null, .int 0, .int 0])), (q1, .inl (k 0, 60, .inl (fun _ => 0))), (q2, .inl (k 0, 60, .inl (fun _ => 0))), (q3, .inl (k 0, 60, .inl (fun _ => 0))), (q4, .inl (k 0, 60, .inl (fun _ => 0))), (q5, .inl (k 1, 60, .inr (.inl (fun _ => 0))))] H := hP
  replace hD : va_D A [(h0, .inr (3, [.ref q1, .ref q2, .ref q3, .ref q4, .null, .null, .null, .int 0, .int 0])), (q1, .inl (k 0, 60, .inl (fun _ => 0))), (q2, .inl (k 0, 60, .inl (fun _ => 0))), (q3, .inl (k 0, 60, .inl (fun _ => 0))), (q4, .inl (k 0, 60, .inl (fun _ => 0))), (q5, .inl (k 1, 60, .inr (.inl (fun _ => 0))))] := hD
  refine W.widen (k := 5) (n := 300) (Nat.le_of_ble_eq_true rfl) (Nat.le_of_ble_eq_true rfl) ?_
  refine va_putF (D := D) (ci := 3) (v := .ref q5) (ty := .array .long) (C := RX3) (T := TX3) (N := 9) hx hb hts iX3 tyX3 tyX3_ok nmX3 hown hK hP hD hS 0 rfl rfl 4 (by decide) f24 (fun _ h9 => h9) rfl hin rfl (by decide +kernel) rfl rfl (Nat.le_of_ble_eq_true rfl) dX3_init_41 (fun H locs hP hD hS => ?_)
  replace hP : va_P D vwCl [(h0, .inr (3, [.ref q1, .ref q2, .ref q3, .ref q4, .ref q5, .null, .null, .int 0, .int 0])), (q1, .inl (k 0, 60, .inl (fun _ => 0))), (q2, .inl (k 0, 60, .inl (fun _ => 0))), (q3, .inl (k 0, 60, .inl (fun _ => 0))), (q4, .inl (k 0, 60, .inl (fun _ => 0))), (q5, .inl (k 1, 60, .inr (.inl (fun _ => 0))))] H := hP
  replace hD : va_D A [(h0, .inr (3, [.ref q1, .ref q2, .ref q3, .ref q4, .ref q5, .null, .null, .int 0, .int 0])), (q1, .inl (k 0, 60, .inl (fun _ => 0))), (q2, .inl (k 0, 60, .inl (fun _ => 0))), (q3, .inl (k 0, 60, .inl (fun _ => 0))), (q4, .inl (k 0, 60, .inl (fun _ => 0))), (q5, .inl (k 1, 60, .inr (.inl (fun _ => 0))))] := hD
  refine lv_aload_n hx hb dX3_init_44 rfl (lv_at hl 0 rfl) ?_
  refine lv_bipush (v := 60) hx hb dX3_init_45 (by decide) ?_
  refine va_newaQ (atype := .long) (ty := .long) (t0 := 1) (a0 := (60, .inr (.inl (fun _ => 0)))) hx hb (hts (.arrayClass .long) (by decide +kernel)) rfl hK rfl hP hD hS hA (fun _ => rfl) (by decide) (by decide) (Nat.le_of_ble_eq_true rfl) (Nat.le_of_ble_eq_true rfl) (Nat.le_of_ble_eq_true rfl) dX3_init_47 (fun q6 H hP hD hS => ?_)
  replace hP : va_P D vwCl [(h0, .inr (3, [.ref q1, .ref q2, .ref q3, .ref q4, .ref q5, .null, .null, .int 0, .int 0])), (q1, .inl (k 0, 60, .inl (fun _ => 0))), (q2, .inl (k 0, 60, .inl (fun _ => 0))), (q3, .inl (k 0, 60, .inl (fun _ => 0))), (q4, .inl (k 0, 60, .inl (fun _ => 0))), (q5, .inl (k 1, 60, .inr (.inl (fun _ => 0)))), (q6, .inl (k 1, 60, .inr (.inl (fun _ => 0))))] H := hP
  replace hD : va_D A [(h0, .inr (3, [.ref q1, .ref q2, .ref q3, .ref q4, .ref q5, .null, .null, .int 0, .int 0])), (q1, .inl (k 0, 60, .inl (fun _ => 0))), (q2, .inl (k 0, 60, .inl (fun _ => 0))), (q3, .inl (k 0, 60, .inl (fun _ => 0))), (q4, .inl (k 0, 60, .inl (fun _ => 0))), (q5, .inl (k 1, 60, .inr (.inl (fun _ => 0)))), (q6, .inl (k 1, 60, .inr (.inl (fun _ => 0))))] := hD
  refine W.widen (k := 6) (n := 360) (Nat.le_of_ble_eq_true rfl) (Nat.le_of_ble_eq_true rfl) ?_
  refine va_putF (D := D) (ci := 3) (v := .ref q6) (ty := .array .long) (C := RX3) (T := TX3) (N := 9) hx hb hts iX3 tyX3 tyX3_ok nmX3 hown hK hP hD hS 0 rfl rfl 5 (by decide) f28 (fun _ h9 => h9) rfl hin rfl (by decide +kernel) rfl rfl (Nat.le_of_ble_eq_true rfl) dX3_init_49 (fun H locs hP hD hS => ?_)
  replace hP : va_P D vwCl [(h0, .inr (3, [.ref q1, .ref q2, .ref q3, .ref q4, .ref q5, .ref q6, .null, .int 0, .int 0])), (q1, .inl (k 0, 60, .inl (fun _ => 0))), (q2, .inl (k 0, 60, .inl (fun _ => 0))), (q3, .inl (k 0, 60, .inl (fun _ => 0))), (q4, .inl (k 0, 60, .inl (fun _ => 0))), (q5, .inl (k 1, 60, .inr (.inl (fun _ => 0)))), (q6, .inl (k 1, 60, .inr (.inl (fun _ => 0))))] H := hP
  replace hD : va_D A [(h0, .inr (3, [.ref q1, .ref q2, .ref q3, .ref q4, .ref q5, .ref q6, .null, .int 0, .int 0])), (q1, .inl (k 0, 60, .inl (fun _ => 0))), (q2, .inl (k 0, 60, .inl (fun _ => 0))), (q3, .inl (k 0, 60, .inl (fun _ => 0))), (q4, .inl (k 0, 60, .inl (fun _ => 0))), (q5, .inl (k 1, 60, .inr (.inl (fun _ => 0)))), (q6, .inl (k 1, 60, .inr (.inl (fun _ => 0))))] := hD
  refine lv_aload_n hx hb dX3_init_52 rfl (lv_at hl 0 rfl) ?_
  refine lv_bipush (v := 60) hx hb dX3_init_53 (by decide) ?_
  refine va_newaQ (atype := .int) (ty := .int) (t0 := 0) (a0 := (60, .inl (fun _ => 0))) hx hb (hts (.arrayClass .int) (by decide +kernel)) rfl hK rfl hP hD hS hA (fun _ => rfl) (by decide) (by decide) (Nat.le_of_ble_eq_true rfl) (Nat.le_of_ble_eq_true rfl) (Nat.le_of_ble_eq_true rfl) dX3_init_55 (fun q7 H hP hD hS => ?_)
  replace hP : va_P D vwCl [(h0, .inr (3, [.ref q1, .ref q2, .ref q3, .ref q4, .ref q5, .ref q6, .null, .int 0, .int 0])), (q1, .inl (k 0, 60, .inl (fun _ => 0))), (q2, .inl (k 0, 60, .inl (fun _ => 0))), (q3, .inl (k 0, 60, .inl (fun _ => 0))), (q4, .inl (k 0, 60, .inl (fun _ => 0))), (q5, .inl (k 1, 60, .inr (.inl (fun _ => 0)))), (q6, .inl (k 1, 60, .inr (.inl (fun _ => 0)))), (q7, .inl (k 0, 60, .inl (fun _ => 0)))] H := hP
  replace hD : va_D A [(h0, .inr (3, [.ref q1, .ref q2, .ref q3, .ref q4, .ref q5, .ref q6, .null, .int 0, .int 0])), (q1, .inl (k 0, 60, .inl (fun _ => 0))), (q2, .inl (k 0, 60, .inl (fun _ => 0))), (q3, .inl (k 0, 60, .inl (fun _ => 0))), (q4, .inl (k 0, 60, .inl (fun _ => 0))), (q5, .inl (k 1, 60, .inr (.inl (fun _ => 0)))), (q6, .inl (k 1, 60, .inr (.inl (fun _ => 0)))), (q7, .inl (k 0, 60, .inl (fun _ => 0)))] := hD
  refine W.widen (k := 7) (n := 420) (Nat.le_of_ble_eq_true rfl) (Nat.le_of_ble_eq_true rfl) ?_
  refine va_putF (D := D) (ci := 3) (v := .ref q7) (ty := .array .int) (C := RX3) (T := TX3) (N := 9) hx hb hts iX3 tyX3 tyX3_ok nmX3 hown hK hP hD hS 0 rfl rfl 6 (by decide) f31 (fun _ h9 => h9) rfl hin rfl (by decide +kernel) rfl rfl (Nat.le_of_ble_eq_true rfl) dX3_init_57 (fun H locs hP hD hS => ?_)
  replace hP : va_P D vwCl [(h0, .inr (3, [.ref q1, .ref q2, .ref q3, .ref q4, .ref q5, .ref q6, .ref q7, .int 0, .int 0])), (q1, .inl (k 0, 60, .inl (fun _ => 0))), (q2, .inl (k 0, 60, .inl (fun _ => 0))), (q3, .inl (k 0, 60, .inl (fun _ => 0))), (q4, .inl (k 0, 60, .inl (fun _ => 0))), (q5, .inl (k 1, 60, .inr (.inl (fun _ => 0)))), (q6, .inl (k 1, 60, .inr (.inl (fun _ => 0)))), (q7, .inl (k 0, 60, .inl (fun _ => 0)))] H := hP
  replace hD : va_D A [(h0, .inr (3, [.ref q1, .ref q2, .ref q3, .ref q4, .ref q5, .ref q6, .ref q7, .int 0, .int 0])), (q1, .inl (k 0, 60, .inl (fun _ => 0))), (q2, .inl (k 0, 60, .inl (fun _ => 0))), (q3, .inl (k 0, 60, .inl (fun _ => 0))), (q4, .inl (k 0, 60, .inl (fun _ => 0))), (q5, .inl (k 1, 60, .inr (.inl (fun _ => 0)))), (q6, .inl (k 1, 60, .inr (.inl (fun _ => 0)))), (q7, .inl (k 0, 60, .inl (fun _ => 0)))] := hD
  refine lv_aload_n hx hb dX3_init_60 rfl (lv_at hl 0 rfl) ?_
  refine lv_iconst (v := 0) hx hb dX3_init_61 (by decide) ?_
  refine va_put (D := D) (ci := 3) (v := .int 0) (ty := .int) (C := RX3) (T := TX3) (N := 9) hx hb hts iX3 tyX3 tyX3_ok nmX3 hown hK hP hD hS 0 rfl rfl 7 (by decide) f34 (fun _ h9 => h9) rfl (by decide +kernel) rfl rfl (Nat.le_of_ble_eq_true rfl) dX3_init_62 (fun H locs hP hD hS => ?_)
  replace hP : va_P D vwCl [(h0, .inr (3, [.ref q1, .ref q2, .ref q3, .ref q4, .ref q5, .ref q6, .ref q7, .int 0, .int 0])), (q1, .inl (k 0, 60, .inl (fun _ => 0))), (q2, .inl (k 0, 60, .inl (fun _ => 0))), (q3, .inl (k 0, 60, .inl (fun _ => 0))), (q4, .inl (k 0, 60, .inl (fun _ => 0))), (q5, .inl (k 1, 60, .inr (.inl (fun _ => 0)))), (q6, .inl (k 1, 60, .inr (.inl (fun _ => 0)))), (q7, .inl (k 0, 60, .inl (fun _ => 0)))] H := hP
  replace hD : va_D A [(h0, .inr (3, [.ref q1, .ref q2, .ref q3, .ref q4, .ref q5, .ref q6, .ref q7, .int 0, .int 0])), (q1, .inl (k 0, 60, .inl (fun _ => 0))), (q2, .inl (k 0, 60, .inl (fun _ => 0))), (q3, .inl (k 0, 60, .inl (fun _ => 0))), (q4, .inl (k 0, 60, .inl (fun _ => 0))), (q5, .inl (k 1, 60, .inr (.inl (fun _ => 0)))), (q6, .inl (k 1, 60, .inr (.inl (fun _ => 0)))), (q7, .inl (k 0, 60, .inl (fun _ => 0)))] := hD
  refine lv_aload_n hx hb dX3_init_65 rfl (lv_at hl 0 rfl) ?_
  refine lv_iconst (v := 0) hx hb dX3_init_66 (by decide) ?_
  refine va_put (D := D) (ci := 3) (v := .int 0) (ty := .int) (C := RX3) (T := TX3) (N := 9) hx hb hts iX3 tyX3 tyX3_ok nmX3 hown hK hP hD hS 0 rfl rfl 8 (by decide) f38 (fun _ h9 => h9) rfl (by decide +kernel) rfl rfl (Nat.le_of_ble_eq_true rfl) dX3_init_67 (fun H locs hP hD hS => ?_)
  replace hP : va_P D vwCl [(h0, .inr (3, [.ref q1, .ref q2, .ref q3, .ref q4, .ref q5, .ref q6, .ref q7, .int 0, .int 0])), (q1, .inl (k 0, 60, .inl (fun _ => 0))), (q2, .inl (k 0, 60, .inl (fun _ => 0))), (q3, .inl (k 0, 60, .inl (fun _ => 0))), (q4, .inl (k 0, 60, .inl (fun _ => 0))), (q5, .inl (k 1, 60, .inr (.inl (fun _ => 0)))), (q6, .inl (k 1, 60, .inr (.inl (fun _ => 0)))), (q7, .inl (k 0, 60, .inl (fun _ => 0)))] H := hP
  replace hD : va_D A [(h0, .inr (3, [.ref q1, .ref q2, .ref q3, .ref q4, .ref q5, .ref q6, .ref q7, .int 0, .int 0])), (q1, .inl (k 0, 60, .inl (fun _ => 0))), (q2, .inl (k 0, 60, .inl (fun _ => 0))), (q3, .inl (k 0, 60, .inl (fun _ => 0))), (q4, .inl (k 0, 60, .inl (fun _ => 0))), (q5, .inl (k 1, 60, .inr (.inl (fun _ => 0)))), (q6, .inl (k 1, 60, .inr (.inl (fun _ => 0)))), (q7, .inl (k 0, 60, .inl (fun _ => 0)))] := hD
  have hPf : va_P D vwCl (wF k (fun i => [h0, q1, q2, q3, q4, q5, q6, q7].getD i 0) (fun _ => 0) (fun _ => 0) (fun _ => 0) (fun _ => 0) (fun _ => 0) (fun _ => 0) (fun _ => 0) 0 0) H := hP
  have hDf : va_D A (wF k (fun i => [h0, q1, q2, q3, q4, q5, q6, q7].getD i 0) (fun _ => 0) (fun _ => 0) (fun _ => 0) (fun _ => 0) (fun _ => 0) (fun _ => 0) (fun _ => 0) 0 0) := hD
  exact W.vret hx hb hr (fun t ht hW => ⟨⟨(fun i => [h0, q1, q2, q3, q4, q5, q6, q7].getD i 0), rfl, rfl, by rw [ht]; exact hPf, va_K.moved hW.alike hK, hDf⟩, hS.F ht⟩) hS.2.2 dX3_init_70
abbrev rmX5_init : Room := { frames := 1, cells := 1, slots := 60, locals := 12 }
set_option maxHeartbeats 4000000 in
set_option maxRecDepth 100000 in
theorem met_X5_init (l : Launch) (D : va_G) (k : Nat → ClassId) (h0 sz : Nat) : Met l yX5_init wsX5_init rmX5_init (va_Pc [.ref h0] (PreW D k [(h0, .inr (5, [.null, .int 0, .int 0]))] sz)) (va_Qv (fun u : Nat → Nat => u 0 = h0) (fun u t => PostW D k (va_A [(h0, .inr (5, [.null, .int 0, .int 0]))] sz) (wL k u (fun _ => 0) 0 0) t) (va_A [(h0, .inr (5, [.null, .int 0, .int 0]))] sz)) 1 60 (va_A [(h0, .inr (5, [.null, .int 0, .int 0]))] sz) := by
  refine Met.ofW (cc := cX5_init) (maxL := 1) (ret := none) (by decide) rfl ?_
  intro p e s m args below meth c s₁ B hml hv
  obtain ⟨hav, hsz, hP, hK, hD0⟩ := hv
  have hx := B.exec
  have hb := B.bytes
  have hr := B.returns
  have hts := atoms_spec (ws := wsX5_init) B.pre
  have hown : s.vm.findClass RX5 = some m.cls := findClass_of_methodNamed B.named
  have hlocks := B.notSynchronized
  have hin : meth.name = "<init>" := (name_of_methodNamed B.named B.method).1
  subst hsz
  have hD := hD0.self (sz := s.heap.size)
  clear hD0
  generalize hAe : va_A [(h0, .inr (5, [.null, .int 0, .int 0]))] s.heap.size = A at hD ⊢
  have hA : ∀ q : Nat, s.heap.size ≤ q → A q := fun q h => by rw [← hAe]; exact Or.inr h
  have hS : va_S A s.heap s.heap [] := va_S.rf
  have hl := lv_entry ([.ref h0]) (n := 1) (Nat.le_of_ble_eq_true rfl)
  rw [show entryFrame m args 1 = entryFrame m ([.ref h0] : List Value).toArray 1 from by rw [hav], lg_entry_eq]
  generalize (lg_sl ([.ref h0]) ++ List.replicate (1 - (lg_sl ([.ref h0])).length) Slot.unset).toArray = ls at hl ⊢
  replace hl : lv_has ls 1 [(0, .ref h0)] := hl
  have f9 := hts (.fieldLink RX5 9 "UncertainBook$Line" "signs" "[C") (by decide +kernel)
  have f15 := hts (.fieldLink RX5 15 "UncertainBook$Line" "length" "I") (by decide +kernel)
  have f19 := hts (.fieldLink RX5 19 "UncertainBook$Line" "at" "I") (by decide +kernel)
  have iX5 : ∀ w ∈ u_ws RX5 TX5 3, w ∈ wsX5_init := by decide +kernel
  refine lv_aload_n hx hb dX5_init_0 rfl (lv_at hl 0 rfl) ?_
  refine W.objInit hx hb hown (hts (.methodLink RX5 3 objectInit) (by decide +kernel)) (hts (.instanceMethod objectInit) (by decide +kernel)) (hts (.code objectInit ⟨#[0xb1]⟩ 1 none) (by decide +kernel)) rfl (by rw [hml]; exact hl.1) rfl dX5_init_1 (Nat.le_of_ble_eq_true rfl) (Nat.le_of_ble_eq_true rfl) ?_
  refine W.eq (g2 := F0 m 4 ls []) rfl ?_
  refine lv_aload_n hx hb dX5_init_4 rfl (lv_at hl 0 rfl) ?_
  refine lv_bipush (v := 60) hx hb dX5_init_5 (by decide) ?_
  refine va_newaQ (atype := .char) (ty := .char) (t0 := 2) (a0 := (60, .inl (fun _ => 0))) hx hb (hts (.arrayClass .char) (by decide +kernel)) rfl hK rfl hP hD hS hA (fun _ => rfl) (by decide) (by decide) (Nat.le_of_ble_eq_true rfl) (Nat.le_of_ble_eq_true rfl) (Nat.le_of_ble_eq_true rfl) dX5_init_7 (fun q1 H hP hD hS => ?_)
  replace hP : va_P D vwCl [(h0, .inr (5, [.null, .int 0, .int 0])), (q1, .inl (k 2, 60, .inl (fun _ => 0)))] H := hP
  replace hD : va_D A [(h0, .inr (5, [.null, .int 0, .int 0])), (q1, .inl (k 2, 60, .inl (fun _ => 0)))] := hD
  refine W.widen (k := 1) (n := 60) (Nat.le_of_ble_eq_true rfl) (Nat.le_of_ble_eq_true rfl) ?_
  refine va_putF (D := D) (ci := 5) (v := .ref q1) (ty := .array .char) (C := RX5) (T := TX5) (N := 3) hx hb hts iX5 tyX5 tyX5_ok nmX5 hown hK hP hD hS 0 rfl rfl 0 (by decide) f9 (fun _ h9 => h9) rfl hin rfl (by decide +kernel) rfl rfl (Nat.le_of_ble_eq_true rfl) dX5_init_9 (fun H locs hP hD hS => ?_)
  replace hP : va_P D vwCl [(h0, .inr (5, [.ref q1, .int 0, .int 0])), (q1, .inl (k 2, 60, .inl (fun _ => 0)))] H := hP
  replace hD : va_D A [(h0, .inr (5, [.ref q1, .int 0, .int 0])), (q1, .inl (k 2, 60, .inl (fun _ => 0)))] := hD
  refine lv_aload_n hx hb dX5_init_12 rfl (lv_at hl 0 rfl) ?_
  refine lv_iconst (v := 0) hx hb dX5_init_13 (by decide) ?_
  refine va_put (D := D) (ci := 5) (v := .int 0) (ty := .int) (C := RX5) (T := TX5) (N := 3) hx hb hts iX5 tyX5 tyX5_ok nmX5 hown hK hP hD hS 0 rfl rfl 1 (by decide) f15 (fun _ h9 => h9) rfl (by decide +kernel) rfl rfl (Nat.le_of_ble_eq_true rfl) dX5_init_14 (fun H locs hP hD hS => ?_)
  replace hP : va_P D vwCl [(h0, .inr (5, [.ref q1, .int 0, .int 0])), (q1, .inl (k 2, 60, .inl (fun _ => 0)))] H := hP
  replace hD : va_D A [(h0, .inr (5, [.ref q1, .int 0, .int 0])), (q1, .inl (k 2, 60, .inl (fun _ => 0)))] := hD
  refine lv_aload_n hx hb dX5_init_17 rfl (lv_at hl 0 rfl) ?_
  refine lv_iconst (v := 0) hx hb dX5_init_18 (by decide) ?_
  refine va_put (D := D) (ci := 5) (v := .int 0) (ty := .int) (C := RX5) (T := TX5) (N := 3) hx hb hts iX5 tyX5 tyX5_ok nmX5 hown hK hP hD hS 0 rfl rfl 2 (by decide) f19 (fun _ h9 => h9) rfl (by decide +kernel) rfl rfl (Nat.le_of_ble_eq_true rfl) dX5_init_19 (fun H locs hP hD hS => ?_)
  replace hP : va_P D vwCl [(h0, .inr (5, [.ref q1, .int 0, .int 0])), (q1, .inl (k 2, 60, .inl (fun _ => 0)))] H := hP
  replace hD : va_D A [(h0, .inr (5, [.ref q1, .int 0, .int 0])), (q1, .inl (k 2, 60, .inl (fun _ => 0)))] := hD
  have hPf : va_P D vwCl (wL k (fun i => [h0, q1].getD i 0) (fun _ => 0) 0 0) H := hP
  have hDf : va_D A (wL k (fun i => [h0, q1].getD i 0) (fun _ => 0) 0 0) := hD
  exact W.vret hx hb hr (fun t ht hW => ⟨⟨(fun i => [h0, q1].getD i 0), rfl, rfl, by rw [ht]; exact hPf, va_K.moved hW.alike hK, hDf⟩, hS.F ht⟩) hS.2.2 dX5_init_22
