/-! ===== the book's model(): a fault, a new model, an old one told anew ===== -/
set_option maxHeartbeats 40000000 in
set_option maxRecDepth 100000 in
theorem met_X6_model_fault (l : Launch) (D : va_G) (k : Nat → ClassId) (aU aL aS : Nat → Nat) (xI xB xV xC : Nat) (sz0 : Nat) (f : Nat → Option Nat) (dr : Nat → Int32) (mo : Int32) (Ls : Nat → Int32) (len lat len2 lat2 : Int32) (K0 L0 R0 P0 K1 L1 R1 P1 E : Nat → Int32) (V S : Nat → Int64) (sz rt sz1 rt1 r v1 : Int32) (c1 : ¬ v1 < 0) (c2 : v1 ≤ mo) (c3 : v1 < 8) (hin : vp_in v1 8) (h : fX5_readInto Ls len lat K0 L0 R0 P0 sz rt = some (r, len2, lat2, K1, L1, R1, P1, sz1, rt1)) (hr1 : ¬ r = -1) : Met l yX6_model wsX6_model rmX6_model (va_Pc [.ref (aU 0), .int v1] (PreN D k ((wU k aU xI (aL 0) (aS 0) xB xV xC f dr mo) ++ ((wL k aL Ls len lat) ++ (wF k aS K0 L0 R0 P0 V S E sz rt))) sz0)) (va_Qi (fun r9 (_ : Nat → Nat) => r9 = -1 - r) (fun u t => PostW D k (va_A ((wU k aU xI (aL 0) (aS 0) xB xV xC f dr mo) ++ ((wL k aL Ls len lat) ++ (wF k aS K0 L0 R0 P0 V S E sz rt))) sz0) ((wU k aU xI (aL 0) (aS 0) xB xV xC f dr mo) ++ ((wL k aL Ls len2 lat2) ++ (wF k aS K1 L1 R1 P1 V S E sz1 rt1))) t) (va_A ((wU k aU xI (aL 0) (aS 0) xB xV xC f dr mo) ++ ((wL k aL Ls len lat) ++ (wF k aS K0 L0 R0 P0 V S E sz rt))) sz0)) 8 429 (va_A ((wU k aU xI (aL 0) (aS 0) xB xV xC f dr mo) ++ ((wL k aL Ls len lat) ++ (wF k aS K0 L0 R0 P0 V S E sz rt))) sz0) := by
  refine Met.ofW (cc := cX6_model) (maxL := 5) (ret := (some .int)) (by decide) rfl ?_
  intro p e s m args below meth c s₁ B hml hv
  obtain ⟨hav, ⟨hsz, hP, hK, hD0⟩, hNW⟩ := hv
  have hx := B.exec
  have hb := B.bytes
  have hr := B.returns
  have hts := atoms_spec (ws := wsX6_model) B.pre
  have hown : s.vm.findClass RX6 = some m.cls := findClass_of_methodNamed B.named
  have hlocks := B.notSynchronized
  subst hsz
  have hD := hD0.self (sz := s.heap.size)
  clear hD0
  obtain ⟨A, hAe⟩ : ∃ A, va_A ((wU k aU xI (aL 0) (aS 0) xB xV xC f dr mo) ++ ((wL k aL Ls len lat) ++ (wF k aS K0 L0 R0 P0 V S E sz rt))) s.heap.size = A := ⟨_, rfl⟩
  rw [hAe] at hD ⊢
  have hA : ∀ q : Nat, s.heap.size ≤ q → A q := fun q h => by rw [← hAe]; exact Or.inr h
  have hS : va_S A s.heap s.heap [] := va_S.rf
  have hl := lv_entry ([.ref (aU 0), .int v1]) (n := 5) (Nat.le_of_ble_eq_true rfl)
  rw [show entryFrame m args 5 = entryFrame m ([.ref (aU 0), .int v1] : List Value).toArray 5 from by rw [hav], lg_entry_eq]
  generalize (lg_sl ([.ref (aU 0), .int v1]) ++ List.replicate (5 - (lg_sl ([.ref (aU 0), .int v1])).length) Slot.unset).toArray = ls at hl ⊢
  replace hl : lv_has ls 5 [(0, .ref (aU 0)), (1, .int v1)] := hl
  have iX6 : ∀ w ∈ u_ws RX6 TX6 9, w ∈ wsX6_model := by decide +kernel
  have iX3 : ∀ w ∈ u_ws RX3 TX3 9, w ∈ wsX6_model := by decide +kernel
  show W p l e rmX6_model s m args below meth c s.heap [] 0 0 _ (F0 m 0 ls [])
  suffices main : ∀ (H : Heap) (locs : List Loc) (ls : Array Slot), va_P D vwCl ((wU k aU xI (aL 0) (aS 0) xB xV xC f dr mo) ++ ((wL k aL Ls len lat) ++ (wF k aS K0 L0 R0 P0 V S E sz rt))) H → va_D A ((wU k aU xI (aL 0) (aS 0) xB xV xC f dr mo) ++ ((wL k aL Ls len lat) ++ (wF k aS K0 L0 R0 P0 V S E sz rt))) → va_S A s.heap H locs → lv_has ls 5 [(0, .ref (aU 0)), (1, .int v1)] → W p l e rmX6_model s m args below meth c H locs 0 0 _ (F0 m 0 ls []) from main _ _ _ hP hD hS hl
  clear hP hD hS hl ls
  intro H locs ls hP hD hS hl
  refine lv_iload_n hx hb dX6_model_0 rfl (lv_at hl 1 rfl) ?_
  refine lv_if_lt (tgt := 12) hx hb dX6_model_1 (by decide) (fun q => absurd q c1) (fun _ => ?_)
  refine lv_iload_n hx hb dX6_model_4 rfl (lv_at hl 1 rfl) ?_
  refine lv_aload_n hx hb dX6_model_5 rfl (lv_at hl 0 rfl) ?_
  refine va_get (D := D) (ci := 6) (v := .int mo) (C := RX6) (T := TX6) (N := 9) hx hb hts iX6 hown hK hP 0 rfl rfl 3 (by decide) (hts (.fieldLink RX6 29 "UncertainBook" "models" "I") (by decide +kernel)) (fun _ h9 => h9) rfl dX6_model_6 ?_
  refine lv_icmp_le (tgt := 22) hx hb dX6_model_9 (by decide) (fun _ => ?_) (fun q => absurd c2 q)
  refine lv_iload_n hx hb dX6_model_22 rfl (lv_at hl 1 rfl) ?_
  refine lv_bipush (v := 8) hx hb dX6_model_23 (by decide) ?_
  refine lv_icmp_lt (tgt := 38) hx hb dX6_model_25 (by decide) (fun _ => ?_) (fun q => absurd c3 q)
  refine lv_aload_n hx hb dX6_model_38 rfl (lv_at hl 0 rfl) ?_
  refine va_get (D := D) (ci := 6) (v := .ref (aL 0)) (C := RX6) (T := TX6) (N := 9) hx hb hts iX6 hown hK hP 0 rfl rfl 1 (by decide) (hts (.fieldLink RX6 19 "UncertainBook" "line" "LUncertainBook$Line;") (by decide +kernel)) (fun _ h9 => h9) rfl dX6_model_39 ?_
  refine lv_aload_n hx hb dX6_model_42 rfl (lv_at hl 0 rfl) ?_
  refine va_get (D := D) (ci := 6) (v := .ref (aS 0)) (C := RX6) (T := TX6) (N := 9) hx hb hts iX6 hown hK hP 0 rfl rfl 4 (by decide) (hts (.fieldLink RX6 34 "UncertainBook" "spare" "LUncertainBook$Formula;") (by decide +kernel)) (fun _ h9 => h9) rfl dX6_model_43 ?_
  have hPc := vs_r hP
  have hDc := vd_r hD
  have hFc := vs_free hDc hS hA
  refine xc_i (va_runV (As := [.ref (aS 0)]) (rest := []) ⟨hx, hb, hml, hown, hts⟩ (met_X5_readInto l D k aL aS H.size Ls len lat K0 L0 R0 P0 V S E sz rt r len2 lat2 K1 L1 R1 P1 sz1 rt1 h) (cwV 1 hts gX6_model_X5_readInto rfl rfl rfl (by decide +kernel) ⟨Nat.le_of_ble_eq_true rfl, Nat.le_of_ble_eq_true rfl⟩) ⟨pw_blind, va_recv hK hPc (ci := 5) (q0 := 0) rfl rfl, pw_start hPc hK hDc⟩ rfl rfl hl.1 rfl (lv_room (Nat.le_of_ble_eq_true rfl)) dX6_model_46 ⟨Nat.zero_le _, Nat.zero_le _⟩) hS hFc (fun H1 locs hP1 hD1 hk1 hS => ?_)
  obtain ⟨hP, hD⟩ := vs_joinR hP hD hFc hk1 hP1 hD1
  clear hP1 hD1 hk1 hFc hPc hDc
  generalize H1 = H at hP hS ⊢
  refine lv_istore_n (lv' := [(2, .int r), (0, .ref (aU 0)), (1, .int v1)]) hx hb dX6_model_49 rfl hl (by decide) rfl (fun ls hl => ?_)
  refine lv_iload_n hx hb dX6_model_50 rfl (lv_at hl 0 rfl) ?_
  refine lv_iconst (v := -1) hx hb dX6_model_51 (by decide) ?_
  refine lv_icmp_eq (tgt := 59) hx hb dX6_model_52 (by decide) (fun q => absurd q hr1) (fun _ => ?_)
  refine lv_iconst (v := -1) hx hb dX6_model_55 (by decide) ?_
  refine lv_iload_n hx hb dX6_model_56 rfl (lv_at hl 0 rfl) ?_
  refine lv_isub hx hb dX6_model_57 ?_
  refine W.widen (k := 8) (n := 429) (Nat.le_of_ble_eq_true rfl) (Nat.le_of_ble_eq_true rfl) ?_
  exact W.iret hx hb hr (fun t ht hW => ⟨⟨_, (fun _ => 0), rfl, rfl, by rw [ht]; exact hP, va_K.moved hW.alike hK, hD⟩, hS.F ht⟩) hS.2.2 dX6_model_58
set_option maxHeartbeats 40000000 in
set_option maxRecDepth 100000 in
theorem met_X6_model_new (l : Launch) (D : va_G) (k : Nat → ClassId) (aU aL aS : Nat → Nat) (xI xB xV xC : Nat) (sz0 : Nat) (f : Nat → Option Nat) (dr : Nat → Int32) (mo : Int32) (Ls : Nat → Int32) (len lat len2 lat2 : Int32) (K0 L0 R0 P0 K1 L1 R1 P1 E : Nat → Int32) (V S : Nat → Int64) (sz rt sz1 rt1 r v1 : Int32) (c1 : ¬ v1 < 0) (c2 : v1 ≤ mo) (c3 : v1 < 8) (hin : vp_in v1 8) (h : fX5_readInto Ls len lat K0 L0 R0 P0 sz rt = some (r, len2, lat2, K1, L1, R1, P1, sz1, rt1)) (hr1 : r = -1) (hf : f v1.toNatClampNeg = none) (hmo : v1 = mo) : Met l yX6_model wsX6_model rmX6_model (va_Pc [.ref (aU 0), .int v1] (PreN D k ((wU k aU xI (aL 0) (aS 0) xB xV xC f dr mo) ++ ((wL k aL Ls len lat) ++ (wF k aS K0 L0 R0 P0 V S E sz rt))) sz0)) (va_Qi (fun r9 (_ : Nat → Nat) => r9 = sz1) (fun u t => PostW D k (va_A ((wU k aU xI (aL 0) (aS 0) xB xV xC f dr mo) ++ ((wL k aL Ls len lat) ++ (wF k aS K0 L0 R0 P0 V S E sz rt))) sz0) ((wU k aU xI (aL 0) (u 0) xB xV xC (va_up f v1.toNatClampNeg (some (aS 0))) dr (mo + 1)) ++ ((wL k aL Ls len2 lat2) ++ (wF k aS K1 L1 R1 P1 V S E sz1 rt1)) ++ (wF k u (fun _ => 0) (fun _ => 0) (fun _ => 0) (fun _ => 0) (fun _ => 0) (fun _ => 0) (fun _ => 0) 0 0)) t) (va_A ((wU k aU xI (aL 0) (aS 0) xB xV xC f dr mo) ++ ((wL k aL Ls len lat) ++ (wF k aS K0 L0 R0 P0 V S E sz rt))) sz0)) 8 429 (va_A ((wU k aU xI (aL 0) (aS 0) xB xV xC f dr mo) ++ ((wL k aL Ls len lat) ++ (wF k aS K0 L0 R0 P0 V S E sz rt))) sz0) := by
  refine Met.ofW (cc := cX6_model) (maxL := 5) (ret := (some .int)) (by decide) rfl ?_
  intro p e s m args below meth c s₁ B hml hv
  obtain ⟨hav, ⟨hsz, hP, hK, hD0⟩, hNW⟩ := hv
  have hx := B.exec
  have hb := B.bytes
  have hr := B.returns
  have hts := atoms_spec (ws := wsX6_model) B.pre
  have hown : s.vm.findClass RX6 = some m.cls := findClass_of_methodNamed B.named
  have hlocks := B.notSynchronized
  subst hsz
  have hD := hD0.self (sz := s.heap.size)
  clear hD0
  obtain ⟨A, hAe⟩ : ∃ A, va_A ((wU k aU xI (aL 0) (aS 0) xB xV xC f dr mo) ++ ((wL k aL Ls len lat) ++ (wF k aS K0 L0 R0 P0 V S E sz rt))) s.heap.size = A := ⟨_, rfl⟩
  rw [hAe] at hD ⊢
  have hA : ∀ q : Nat, s.heap.size ≤ q → A q := fun q h => by rw [← hAe]; exact Or.inr h
  have hS : va_S A s.heap s.heap [] := va_S.rf
  have hl := lv_entry ([.ref (aU 0), .int v1]) (n := 5) (Nat.le_of_ble_eq_true rfl)
  rw [show entryFrame m args 5 = entryFrame m ([.ref (aU 0), .int v1] : List Value).toArray 5 from by rw [hav], lg_entry_eq]
  generalize (lg_sl ([.ref (aU 0), .int v1]) ++ List.replicate (5 - (lg_sl ([.ref (aU 0), .int v1])).length) Slot.unset).toArray = ls at hl ⊢
  replace hl : lv_has ls 5 [(0, .ref (aU 0)), (1, .int v1)] := hl
  have iX6 : ∀ w ∈ u_ws RX6 TX6 9, w ∈ wsX6_model := by decide +kernel
  have iX3 : ∀ w ∈ u_ws RX3 TX3 9, w ∈ wsX6_model := by decide +kernel
  show W p l e rmX6_model s m args below meth c s.heap [] 0 0 _ (F0 m 0 ls [])
  suffices main : ∀ (H : Heap) (locs : List Loc) (ls : Array Slot), va_P D vwCl ((wU k aU xI (aL 0) (aS 0) xB xV xC f dr mo) ++ ((wL k aL Ls len lat) ++ (wF k aS K0 L0 R0 P0 V S E sz rt))) H → va_D A ((wU k aU xI (aL 0) (aS 0) xB xV xC f dr mo) ++ ((wL k aL Ls len lat) ++ (wF k aS K0 L0 R0 P0 V S E sz rt))) → va_S A s.heap H locs → lv_has ls 5 [(0, .ref (aU 0)), (1, .int v1)] → W p l e rmX6_model s m args below meth c H locs 0 0 _ (F0 m 0 ls []) from main _ _ _ hP hD hS hl
  clear hP hD hS hl ls
  intro H locs ls hP hD hS hl
  refine lv_iload_n hx hb dX6_model_0 rfl (lv_at hl 1 rfl) ?_
  refine lv_if_lt (tgt := 12) hx hb dX6_model_1 (by decide) (fun q => absurd q c1) (fun _ => ?_)
  refine lv_iload_n hx hb dX6_model_4 rfl (lv_at hl 1 rfl) ?_
  refine lv_aload_n hx hb dX6_model_5 rfl (lv_at hl 0 rfl) ?_
  refine va_get (D := D) (ci := 6) (v := .int mo) (C := RX6) (T := TX6) (N := 9) hx hb hts iX6 hown hK hP 0 rfl rfl 3 (by decide) (hts (.fieldLink RX6 29 "UncertainBook" "models" "I") (by decide +kernel)) (fun _ h9 => h9) rfl dX6_model_6 ?_
  refine lv_icmp_le (tgt := 22) hx hb dX6_model_9 (by decide) (fun _ => ?_) (fun q => absurd c2 q)
  refine lv_iload_n hx hb dX6_model_22 rfl (lv_at hl 1 rfl) ?_
  refine lv_bipush (v := 8) hx hb dX6_model_23 (by decide) ?_
  refine lv_icmp_lt (tgt := 38) hx hb dX6_model_25 (by decide) (fun _ => ?_) (fun q => absurd c3 q)
  refine lv_aload_n hx hb dX6_model_38 rfl (lv_at hl 0 rfl) ?_
  refine va_get (D := D) (ci := 6) (v := .ref (aL 0)) (C := RX6) (T := TX6) (N := 9) hx hb hts iX6 hown hK hP 0 rfl rfl 1 (by decide) (hts (.fieldLink RX6 19 "UncertainBook" "line" "LUncertainBook$Line;") (by decide +kernel)) (fun _ h9 => h9) rfl dX6_model_39 ?_
  refine lv_aload_n hx hb dX6_model_42 rfl (lv_at hl 0 rfl) ?_
  refine va_get (D := D) (ci := 6) (v := .ref (aS 0)) (C := RX6) (T := TX6) (N := 9) hx hb hts iX6 hown hK hP 0 rfl rfl 4 (by decide) (hts (.fieldLink RX6 34 "UncertainBook" "spare" "LUncertainBook$Formula;") (by decide +kernel)) (fun _ h9 => h9) rfl dX6_model_43 ?_
  have hPc := vs_r hP
  have hDc := vd_r hD
  have hFc := vs_free hDc hS hA
  refine xc_i (va_runV (As := [.ref (aS 0)]) (rest := []) ⟨hx, hb, hml, hown, hts⟩ (met_X5_readInto l D k aL aS H.size Ls len lat K0 L0 R0 P0 V S E sz rt r len2 lat2 K1 L1 R1 P1 sz1 rt1 h) (cwV 1 hts gX6_model_X5_readInto rfl rfl rfl (by decide +kernel) ⟨Nat.le_of_ble_eq_true rfl, Nat.le_of_ble_eq_true rfl⟩) ⟨pw_blind, va_recv hK hPc (ci := 5) (q0 := 0) rfl rfl, pw_start hPc hK hDc⟩ rfl rfl hl.1 rfl (lv_room (Nat.le_of_ble_eq_true rfl)) dX6_model_46 ⟨Nat.zero_le _, Nat.zero_le _⟩) hS hFc (fun H1 locs hP1 hD1 hk1 hS => ?_)
  obtain ⟨hP, hD⟩ := vs_joinR hP hD hFc hk1 hP1 hD1
  clear hP1 hD1 hk1 hFc hPc hDc
  generalize H1 = H at hP hS ⊢
  refine lv_istore_n (lv' := [(2, .int r), (0, .ref (aU 0)), (1, .int v1)]) hx hb dX6_model_49 rfl hl (by decide) rfl (fun ls hl => ?_)
  refine lv_iload_n hx hb dX6_model_50 rfl (lv_at hl 0 rfl) ?_
  refine lv_iconst (v := -1) hx hb dX6_model_51 (by decide) ?_
  refine lv_icmp_eq (tgt := 59) hx hb dX6_model_52 (by decide) (fun _ => ?_) (fun q => absurd hr1 q)
  refine lv_aload_n hx hb dX6_model_59 rfl (lv_at hl 1 rfl) ?_
  refine va_get (D := D) (ci := 6) (v := .ref (aS 0)) (C := RX6) (T := TX6) (N := 9) hx hb hts iX6 hown hK hP 0 rfl rfl 4 (by decide) (hts (.fieldLink RX6 34 "UncertainBook" "spare" "LUncertainBook$Formula;") (by decide +kernel)) (fun _ h9 => h9) rfl dX6_model_60 ?_
  refine lv_astore_n (lv' := [(3, .ref (aS 0)), (2, .int r), (0, .ref (aU 0)), (1, .int v1)]) hx hb dX6_model_63 rfl hl (by decide) rfl (fun ls hl => ?_)
  refine lv_aload_n hx hb dX6_model_64 rfl (lv_at hl 2 rfl) ?_
  refine va_get (D := D) (ci := 6) (v := .ref (aU 1)) (C := RX6) (T := TX6) (N := 9) hx hb hts iX6 hown hK hP 0 rfl rfl 2 (by decide) (hts (.fieldLink RX6 25 "UncertainBook" "formulas" "[LUncertainBook$Formula;") (by decide +kernel)) (fun _ h9 => h9) rfl dX6_model_65 ?_
  refine lv_iload_n hx hb dX6_model_68 rfl (lv_at hl 3 rfl) ?_
  refine va_aldq hx hb hK hP 1 3 rfl rfl hin dX6_model_69 ?_
  have e1 : va_rf (f v1.toNatClampNeg) = .null := by rw [hf]; rfl
  rw [e1]
  refine lv_astoreN (lv' := [(4, .null), (3, .ref (aS 0)), (2, .int r), (0, .ref (aU 0)), (1, .int v1)]) hx hb dX6_model_70 hl (by decide) rfl (fun ls hl => ?_)
  refine lv_aload_n hx hb dX6_model_72 rfl (lv_at hl 3 rfl) ?_
  refine lv_aloadN hx hb dX6_model_73 (lv_at hl 0 rfl) ?_
  refine lv_ifnonnullN hx hb dX6_model_75 ?_
  refine va_new (ci := 3) (fs := [.null, .null, .null, .null, .null, .null, .null, .int 0, .int 0]) (C := RX3) (T := TX3) (N := 9) hx hb hts iX3 tyX3 tyX3_ok hown (hts (.classLink RX6 23 RX3) (by decide +kernel)) (hts (.instantiable RX3 9) (by decide +kernel)) (hts (.initialized RX3) (by decide +kernel)) hK hP hD hS hA rfl (fun j hj => by rcases (show j = 0 ∨ j = 1 ∨ j = 2 ∨ j = 3 ∨ j = 4 ∨ j = 5 ∨ j = 6 ∨ j = 7 ∨ j = 8 by omega) with rfl | rfl | rfl | rfl | rfl | rfl | rfl | rfl | rfl <;> rfl) (Nat.le_of_ble_eq_true rfl) (Nat.le_of_ble_eq_true rfl) dX6_model_78 (fun xu H hP hD hS => ?_)
  refine W.widen (k := 1) (n := 9) (Nat.le_of_ble_eq_true rfl) (Nat.le_of_ble_eq_true rfl) ?_
  refine lv_dup hx hb dX6_model_81 rfl ?_
  have hPc := vs_r hP
  have hDc := vd_r hD
  have hFc := vs_free hDc hS hA
  refine xc_n (va_runIN (As := []) (rest := [.ref xu, .ref (aU 0)]) ⟨hx, hb, hml, hown, hts⟩ (met_X3_init l D k xu H.size) (⟨va_cnB 0 hts gX6_model_X3_init_n33 rfl rfl rfl hNW.2.2.1 (hts (.initialized RX3) (by decide +kernel)) (by decide +kernel) ⟨Nat.le_of_ble_eq_true rfl, Nat.le_of_ble_eq_true rfl⟩, rfl, hts (.instanceMethod yX3_init) (by decide +kernel)⟩) ⟨pw_blind, pw_start hPc hK hDc⟩ rfl rfl hl.1 rfl (lv_room (Nat.le_of_ble_eq_true rfl)) dX6_model_82 ⟨Nat.le_of_ble_eq_true rfl, Nat.le_of_ble_eq_true rfl⟩) hS hFc (fun u H1 locs hu hP1 hD1 hk1 hS => ?_)
  obtain ⟨hP9, hD9⟩ := vs_joinR hP hD hFc hk1 hP1 hD1
  clear hP1 hD1 hk1 hFc hPc hDc hP hD
  subst hu
  have hP := hP9
  have hD := hD9
  clear hP9 hD9
  generalize H1 = H at hP hS ⊢
  refine W.widen (k := 8) (n := 429) (Nat.le_of_ble_eq_true rfl) (Nat.le_of_ble_eq_true rfl) ?_
  replace hP : va_P D vwCl ((wU k aU xI (aL 0) (aS 0) xB xV xC f dr mo) ++ ((wL k aL Ls len2 lat2) ++ (wF k aS K1 L1 R1 P1 V S E sz1 rt1)) ++ (wF k u (fun _ => 0) (fun _ => 0) (fun _ => 0) (fun _ => 0) (fun _ => 0) (fun _ => 0) (fun _ => 0) 0 0)) H := hP
  replace hD : va_D A ((wU k aU xI (aL 0) (aS 0) xB xV xC f dr mo) ++ ((wL k aL Ls len2 lat2) ++ (wF k aS K1 L1 R1 P1 V S E sz1 rt1)) ++ (wF k u (fun _ => 0) (fun _ => 0) (fun _ => 0) (fun _ => 0) (fun _ => 0) (fun _ => 0) (fun _ => 0) 0 0)) := hD
  refine lv_goto (tgt := 90) hx hb dX6_model_85 (by decide) ?_
  refine va_put (D := D) (ci := 6) (v := .ref (u 0)) (ty := .object RX3) (C := RX6) (T := TX6) (N := 9) hx hb hts iX6 tyX6 tyX6_ok nmX6 hown hK hP hD hS 0 rfl rfl 4 (by decide) (hts (.fieldLink RX6 34 "UncertainBook" "spare" "LUncertainBook$Formula;") (by decide +kernel)) (fun _ h9 => h9) rfl (by decide +kernel) rfl rfl (Nat.le_of_ble_eq_true rfl) dX6_model_90 (fun H locs hP hD hS => ?_)
  replace hP : va_P D vwCl ((wU k aU xI (aL 0) (u 0) xB xV xC f dr mo) ++ ((wL k aL Ls len2 lat2) ++ (wF k aS K1 L1 R1 P1 V S E sz1 rt1)) ++ (wF k u (fun _ => 0) (fun _ => 0) (fun _ => 0) (fun _ => 0) (fun _ => 0) (fun _ => 0) (fun _ => 0) 0 0)) H := hP
  replace hD : va_D A ((wU k aU xI (aL 0) (u 0) xB xV xC f dr mo) ++ ((wL k aL Ls len2 lat2) ++ (wF k aS K1 L1 R1 P1 V S E sz1 rt1)) ++ (wF k u (fun _ => 0) (fun _ => 0) (fun _ => 0) (fun _ => 0) (fun _ => 0) (fun _ => 0) (fun _ => 0) 0 0)) := hD
  refine lv_aload_n hx hb dX6_model_93 rfl (lv_at hl 3 rfl) ?_
  refine va_get (D := D) (ci := 6) (v := .ref (aU 1)) (C := RX6) (T := TX6) (N := 9) hx hb hts iX6 hown hK hP 0 rfl rfl 2 (by decide) (hts (.fieldLink RX6 25 "UncertainBook" "formulas" "[LUncertainBook$Formula;") (by decide +kernel)) (fun _ h9 => h9) rfl dX6_model_94 ?_
  refine lv_iload_n hx hb dX6_model_97 rfl (lv_at hl 4 rfl) ?_
  refine lv_aload_n hx hb dX6_model_98 rfl (lv_at hl 1 rfl) ?_
  refine va_astq hx hb hK hP hD hS 1 3 5 3 rfl rfl rfl rfl hin dX6_model_99 (fun H locs hP hD hS => ?_)
  replace hP : va_P D vwCl ((wU k aU xI (aL 0) (u 0) xB xV xC (va_up f v1.toNatClampNeg (some (aS 0))) dr mo) ++ ((wL k aL Ls len2 lat2) ++ (wF k aS K1 L1 R1 P1 V S E sz1 rt1)) ++ (wF k u (fun _ => 0) (fun _ => 0) (fun _ => 0) (fun _ => 0) (fun _ => 0) (fun _ => 0) (fun _ => 0) 0 0)) H := hP
  replace hD : va_D A ((wU k aU xI (aL 0) (u 0) xB xV xC (va_up f v1.toNatClampNeg (some (aS 0))) dr mo) ++ ((wL k aL Ls len2 lat2) ++ (wF k aS K1 L1 R1 P1 V S E sz1 rt1)) ++ (wF k u (fun _ => 0) (fun _ => 0) (fun _ => 0) (fun _ => 0) (fun _ => 0) (fun _ => 0) (fun _ => 0) 0 0)) := hD
  refine lv_iload_n hx hb dX6_model_100 rfl (lv_at hl 4 rfl) ?_
  refine lv_aload_n hx hb dX6_model_101 rfl (lv_at hl 3 rfl) ?_
  refine va_get (D := D) (ci := 6) (v := .int mo) (C := RX6) (T := TX6) (N := 9) hx hb hts iX6 hown hK hP 0 rfl rfl 3 (by decide) (hts (.fieldLink RX6 29 "UncertainBook" "models" "I") (by decide +kernel)) (fun _ h9 => h9) rfl dX6_model_102 ?_
  refine lv_icmp_ne (tgt := 118) hx hb dX6_model_105 (by decide) (fun q => absurd hmo q) (fun _ => ?_)
  refine lv_aload_n hx hb dX6_model_108 rfl (lv_at hl 3 rfl) ?_
  refine lv_dup hx hb dX6_model_109 rfl ?_
  refine va_get (D := D) (ci := 6) (v := .int mo) (C := RX6) (T := TX6) (N := 9) hx hb hts iX6 hown hK hP 0 rfl rfl 3 (by decide) (hts (.fieldLink RX6 29 "UncertainBook" "models" "I") (by decide +kernel)) (fun _ h9 => h9) rfl dX6_model_110 ?_
  refine lv_iconst (v := 1) hx hb dX6_model_113 (by decide) ?_
  refine lv_iadd hx hb dX6_model_114 ?_
  refine va_put (D := D) (ci := 6) (v := .int (mo + 1)) (ty := .int) (C := RX6) (T := TX6) (N := 9) hx hb hts iX6 tyX6 tyX6_ok nmX6 hown hK hP hD hS 0 rfl rfl 3 (by decide) (hts (.fieldLink RX6 29 "UncertainBook" "models" "I") (by decide +kernel)) (fun _ h9 => h9) rfl (by decide +kernel) rfl rfl (Nat.le_of_ble_eq_true rfl) dX6_model_115 (fun H locs hP hD hS => ?_)
  replace hP : va_P D vwCl ((wU k aU xI (aL 0) (u 0) xB xV xC (va_up f v1.toNatClampNeg (some (aS 0))) dr (mo + 1)) ++ ((wL k aL Ls len2 lat2) ++ (wF k aS K1 L1 R1 P1 V S E sz1 rt1)) ++ (wF k u (fun _ => 0) (fun _ => 0) (fun _ => 0) (fun _ => 0) (fun _ => 0) (fun _ => 0) (fun _ => 0) 0 0)) H := hP
  replace hD : va_D A ((wU k aU xI (aL 0) (u 0) xB xV xC (va_up f v1.toNatClampNeg (some (aS 0))) dr (mo + 1)) ++ ((wL k aL Ls len2 lat2) ++ (wF k aS K1 L1 R1 P1 V S E sz1 rt1)) ++ (wF k u (fun _ => 0) (fun _ => 0) (fun _ => 0) (fun _ => 0) (fun _ => 0) (fun _ => 0) (fun _ => 0) 0 0)) := hD
  refine lv_aload_n hx hb dX6_model_118 rfl (lv_at hl 1 rfl) ?_
  refine va_get (D := D) (ci := 3) (v := .int sz1) (C := RX3) (T := TX3) (N := 9) hx hb hts iX3 hown hK hP 5 rfl rfl 7 (by decide) (hts (.fieldLink RX6 150 "UncertainBook$Formula" "size" "I") (by decide +kernel)) (fun _ h9 => h9) rfl dX6_model_119 ?_
  exact W.iret hx hb hr (fun t ht hW => ⟨⟨_, u, rfl, rfl, by rw [ht]; exact hP, va_K.moved hW.alike hK, hD⟩, hS.F ht⟩) hS.2.2 dX6_model_122
set_option maxHeartbeats 40000000 in
set_option maxRecDepth 100000 in
theorem met_X6_model_old (l : Launch) (D : va_G) (k : Nat → ClassId) (aU aL aS : Nat → Nat) (xI xB xV xC : Nat) (sz0 : Nat) (f : Nat → Option Nat) (dr : Nat → Int32) (mo : Int32) (Ls : Nat → Int32) (len lat len2 lat2 : Int32) (K0 L0 R0 P0 K1 L1 R1 P1 E : Nat → Int32) (V S : Nat → Int64) (sz rt sz1 rt1 r v1 : Int32) (c1 : ¬ v1 < 0) (c2 : v1 ≤ mo) (c3 : v1 < 8) (hin : vp_in v1 8) (h : fX5_readInto Ls len lat K0 L0 R0 P0 sz rt = some (r, len2, lat2, K1, L1, R1, P1, sz1, rt1)) (hr1 : r = -1) (x : Nat) (hf : f v1.toNatClampNeg = some x) (hmo : ¬ v1 = mo) : Met l yX6_model wsX6_model rmX6_model (va_Pc [.ref (aU 0), .int v1] (PreN D k ((wU k aU xI (aL 0) (aS 0) xB xV xC f dr mo) ++ ((wL k aL Ls len lat) ++ (wF k aS K0 L0 R0 P0 V S E sz rt))) sz0)) (va_Qi (fun r9 (_ : Nat → Nat) => r9 = sz1) (fun u t => PostW D k (va_A ((wU k aU xI (aL 0) (aS 0) xB xV xC f dr mo) ++ ((wL k aL Ls len lat) ++ (wF k aS K0 L0 R0 P0 V S E sz rt))) sz0) ((wU k aU xI (aL 0) x xB xV xC (va_up f v1.toNatClampNeg (some (aS 0))) dr mo) ++ ((wL k aL Ls len2 lat2) ++ (wF k aS K1 L1 R1 P1 V S E sz1 rt1))) t) (va_A ((wU k aU xI (aL 0) (aS 0) xB xV xC f dr mo) ++ ((wL k aL Ls len lat) ++ (wF k aS K0 L0 R0 P0 V S E sz rt))) sz0)) 8 429 (va_A ((wU k aU xI (aL 0) (aS 0) xB xV xC f dr mo) ++ ((wL k aL Ls len lat) ++ (wF k aS K0 L0 R0 P0 V S E sz rt))) sz0) := by
  refine Met.ofW (cc := cX6_model) (maxL := 5) (ret := (some .int)) (by decide) rfl ?_
  intro p e s m args below meth c s₁ B hml hv
  obtain ⟨hav, ⟨hsz, hP, hK, hD0⟩, hNW⟩ := hv
  have hx := B.exec
  have hb := B.bytes
  have hr := B.returns
  have hts := atoms_spec (ws := wsX6_model) B.pre
  have hown : s.vm.findClass RX6 = some m.cls := findClass_of_methodNamed B.named
  have hlocks := B.notSynchronized
  subst hsz
  have hD := hD0.self (sz := s.heap.size)
  clear hD0
  obtain ⟨A, hAe⟩ : ∃ A, va_A ((wU k aU xI (aL 0) (aS 0) xB xV xC f dr mo) ++ ((wL k aL Ls len lat) ++ (wF k aS K0 L0 R0 P0 V S E sz rt))) s.heap.size = A := ⟨_, rfl⟩
  rw [hAe] at hD ⊢
  have hA : ∀ q : Nat, s.heap.size ≤ q → A q := fun q h => by rw [← hAe]; exact Or.inr h
  have hS : va_S A s.heap s.heap [] := va_S.rf
  have hl := lv_entry ([.ref (aU 0), .int v1]) (n := 5) (Nat.le_of_ble_eq_true rfl)
  rw [show entryFrame m args 5 = entryFrame m ([.ref (aU 0), .int v1] : List Value).toArray 5 from by rw [hav], lg_entry_eq]
  generalize (lg_sl ([.ref (aU 0), .int v1]) ++ List.replicate (5 - (lg_sl ([.ref (aU 0), .int v1])).length) Slot.unset).toArray = ls at hl ⊢
  replace hl : lv_has ls 5 [(0, .ref (aU 0)), (1, .int v1)] := hl
  have iX6 : ∀ w ∈ u_ws RX6 TX6 9, w ∈ wsX6_model := by decide +kernel
  have iX3 : ∀ w ∈ u_ws RX3 TX3 9, w ∈ wsX6_model := by decide +kernel
  show W p l e rmX6_model s m args below meth c s.heap [] 0 0 _ (F0 m 0 ls [])
  suffices main : ∀ (H : Heap) (locs : List Loc) (ls : Array Slot), va_P D vwCl ((wU k aU xI (aL 0) (aS 0) xB xV xC f dr mo) ++ ((wL k aL Ls len lat) ++ (wF k aS K0 L0 R0 P0 V S E sz rt))) H → va_D A ((wU k aU xI (aL 0) (aS 0) xB xV xC f dr mo) ++ ((wL k aL Ls len lat) ++ (wF k aS K0 L0 R0 P0 V S E sz rt))) → va_S A s.heap H locs → lv_has ls 5 [(0, .ref (aU 0)), (1, .int v1)] → W p l e rmX6_model s m args below meth c H locs 0 0 _ (F0 m 0 ls []) from main _ _ _ hP hD hS hl
  clear hP hD hS hl ls
  intro H locs ls hP hD hS hl
  refine lv_iload_n hx hb dX6_model_0 rfl (lv_at hl 1 rfl) ?_
  refine lv_if_lt (tgt := 12) hx hb dX6_model_1 (by decide) (fun q => absurd q c1) (fun _ => ?_)
  refine lv_iload_n hx hb dX6_model_4 rfl (lv_at hl 1 rfl) ?_
  refine lv_aload_n hx hb dX6_model_5 rfl (lv_at hl 0 rfl) ?_
  refine va_get (D := D) (ci := 6) (v := .int mo) (C := RX6) (T := TX6) (N := 9) hx hb hts iX6 hown hK hP 0 rfl rfl 3 (by decide) (hts (.fieldLink RX6 29 "UncertainBook" "models" "I") (by decide +kernel)) (fun _ h9 => h9) rfl dX6_model_6 ?_
  refine lv_icmp_le (tgt := 22) hx hb dX6_model_9 (by decide) (fun _ => ?_) (fun q => absurd c2 q)
  refine lv_iload_n hx hb dX6_model_22 rfl (lv_at hl 1 rfl) ?_
  refine lv_bipush (v := 8) hx hb dX6_model_23 (by decide) ?_
  refine lv_icmp_lt (tgt := 38) hx hb dX6_model_25 (by decide) (fun _ => ?_) (fun q => absurd c3 q)
  refine lv_aload_n hx hb dX6_model_38 rfl (lv_at hl 0 rfl) ?_
  refine va_get (D := D) (ci := 6) (v := .ref (aL 0)) (C := RX6) (T := TX6) (N := 9) hx hb hts iX6 hown hK hP 0 rfl rfl 1 (by decide) (hts (.fieldLink RX6 19 "UncertainBook" "line" "LUncertainBook$Line;") (by decide +kernel)) (fun _ h9 => h9) rfl dX6_model_39 ?_
  refine lv_aload_n hx hb dX6_model_42 rfl (lv_at hl 0 rfl) ?_
  refine va_get (D := D) (ci := 6) (v := .ref (aS 0)) (C := RX6) (T := TX6) (N := 9) hx hb hts iX6 hown hK hP 0 rfl rfl 4 (by decide) (hts (.fieldLink RX6 34 "UncertainBook" "spare" "LUncertainBook$Formula;") (by decide +kernel)) (fun _ h9 => h9) rfl dX6_model_43 ?_
  have hPc := vs_r hP
  have hDc := vd_r hD
  have hFc := vs_free hDc hS hA
  refine xc_i (va_runV (As := [.ref (aS 0)]) (rest := []) ⟨hx, hb, hml, hown, hts⟩ (met_X5_readInto l D k aL aS H.size Ls len lat K0 L0 R0 P0 V S E sz rt r len2 lat2 K1 L1 R1 P1 sz1 rt1 h) (cwV 1 hts gX6_model_X5_readInto rfl rfl rfl (by decide +kernel) ⟨Nat.le_of_ble_eq_true rfl, Nat.le_of_ble_eq_true rfl⟩) ⟨pw_blind, va_recv hK hPc (ci := 5) (q0 := 0) rfl rfl, pw_start hPc hK hDc⟩ rfl rfl hl.1 rfl (lv_room (Nat.le_of_ble_eq_true rfl)) dX6_model_46 ⟨Nat.zero_le _, Nat.zero_le _⟩) hS hFc (fun H1 locs hP1 hD1 hk1 hS => ?_)
  obtain ⟨hP, hD⟩ := vs_joinR hP hD hFc hk1 hP1 hD1
  clear hP1 hD1 hk1 hFc hPc hDc
  generalize H1 = H at hP hS ⊢
  refine lv_istore_n (lv' := [(2, .int r), (0, .ref (aU 0)), (1, .int v1)]) hx hb dX6_model_49 rfl hl (by decide) rfl (fun ls hl => ?_)
  refine lv_iload_n hx hb dX6_model_50 rfl (lv_at hl 0 rfl) ?_
  refine lv_iconst (v := -1) hx hb dX6_model_51 (by decide) ?_
  refine lv_icmp_eq (tgt := 59) hx hb dX6_model_52 (by decide) (fun _ => ?_) (fun q => absurd hr1 q)
  refine lv_aload_n hx hb dX6_model_59 rfl (lv_at hl 1 rfl) ?_
  refine va_get (D := D) (ci := 6) (v := .ref (aS 0)) (C := RX6) (T := TX6) (N := 9) hx hb hts iX6 hown hK hP 0 rfl rfl 4 (by decide) (hts (.fieldLink RX6 34 "UncertainBook" "spare" "LUncertainBook$Formula;") (by decide +kernel)) (fun _ h9 => h9) rfl dX6_model_60 ?_
  refine lv_astore_n (lv' := [(3, .ref (aS 0)), (2, .int r), (0, .ref (aU 0)), (1, .int v1)]) hx hb dX6_model_63 rfl hl (by decide) rfl (fun ls hl => ?_)
  refine lv_aload_n hx hb dX6_model_64 rfl (lv_at hl 2 rfl) ?_
  refine va_get (D := D) (ci := 6) (v := .ref (aU 1)) (C := RX6) (T := TX6) (N := 9) hx hb hts iX6 hown hK hP 0 rfl rfl 2 (by decide) (hts (.fieldLink RX6 25 "UncertainBook" "formulas" "[LUncertainBook$Formula;") (by decide +kernel)) (fun _ h9 => h9) rfl dX6_model_65 ?_
  refine lv_iload_n hx hb dX6_model_68 rfl (lv_at hl 3 rfl) ?_
  refine va_aldq hx hb hK hP 1 3 rfl rfl hin dX6_model_69 ?_
  have e1 : va_rf (f v1.toNatClampNeg) = .ref x := by rw [hf]; rfl
  rw [e1]
  refine lv_astore (lv' := [(4, .ref x), (3, .ref (aS 0)), (2, .int r), (0, .ref (aU 0)), (1, .int v1)]) hx hb dX6_model_70 hl (by decide) rfl (fun ls hl => ?_)
  refine lv_aload_n hx hb dX6_model_72 rfl (lv_at hl 3 rfl) ?_
  refine lv_aload hx hb dX6_model_73 (lv_at hl 0 rfl) ?_
  refine lv_ifnonnull (tgt := 88) hx hb dX6_model_75 (by decide) ?_
  refine lv_aload hx hb dX6_model_88 (lv_at hl 0 rfl) ?_
  refine va_put (D := D) (ci := 6) (v := .ref x) (ty := .object RX3) (C := RX6) (T := TX6) (N := 9) hx hb hts iX6 tyX6 tyX6_ok nmX6 hown hK hP hD hS 0 rfl rfl 4 (by decide) (hts (.fieldLink RX6 34 "UncertainBook" "spare" "LUncertainBook$Formula;") (by decide +kernel)) (fun _ h9 => h9) rfl (by decide +kernel) rfl rfl (Nat.le_of_ble_eq_true rfl) dX6_model_90 (fun H locs hP hD hS => ?_)
  replace hP : va_P D vwCl ((wU k aU xI (aL 0) x xB xV xC f dr mo) ++ ((wL k aL Ls len2 lat2) ++ (wF k aS K1 L1 R1 P1 V S E sz1 rt1))) H := hP
  replace hD : va_D A ((wU k aU xI (aL 0) x xB xV xC f dr mo) ++ ((wL k aL Ls len2 lat2) ++ (wF k aS K1 L1 R1 P1 V S E sz1 rt1))) := hD
  refine lv_aload_n hx hb dX6_model_93 rfl (lv_at hl 3 rfl) ?_
  refine va_get (D := D) (ci := 6) (v := .ref (aU 1)) (C := RX6) (T := TX6) (N := 9) hx hb hts iX6 hown hK hP 0 rfl rfl 2 (by decide) (hts (.fieldLink RX6 25 "UncertainBook" "formulas" "[LUncertainBook$Formula;") (by decide +kernel)) (fun _ h9 => h9) rfl dX6_model_94 ?_
  refine lv_iload_n hx hb dX6_model_97 rfl (lv_at hl 4 rfl) ?_
  refine lv_aload_n hx hb dX6_model_98 rfl (lv_at hl 1 rfl) ?_
  refine va_astq hx hb hK hP hD hS 1 3 5 3 rfl rfl rfl rfl hin dX6_model_99 (fun H locs hP hD hS => ?_)
  replace hP : va_P D vwCl ((wU k aU xI (aL 0) x xB xV xC (va_up f v1.toNatClampNeg (some (aS 0))) dr mo) ++ ((wL k aL Ls len2 lat2) ++ (wF k aS K1 L1 R1 P1 V S E sz1 rt1))) H := hP
  replace hD : va_D A ((wU k aU xI (aL 0) x xB xV xC (va_up f v1.toNatClampNeg (some (aS 0))) dr mo) ++ ((wL k aL Ls len2 lat2) ++ (wF k aS K1 L1 R1 P1 V S E sz1 rt1))) := hD
  refine lv_iload_n hx hb dX6_model_100 rfl (lv_at hl 4 rfl) ?_
  refine lv_aload_n hx hb dX6_model_101 rfl (lv_at hl 3 rfl) ?_
  refine va_get (D := D) (ci := 6) (v := .int mo) (C := RX6) (T := TX6) (N := 9) hx hb hts iX6 hown hK hP 0 rfl rfl 3 (by decide) (hts (.fieldLink RX6 29 "UncertainBook" "models" "I") (by decide +kernel)) (fun _ h9 => h9) rfl dX6_model_102 ?_
  refine lv_icmp_ne (tgt := 118) hx hb dX6_model_105 (by decide) (fun _ => ?_) (fun q => absurd q hmo)
  refine lv_aload_n hx hb dX6_model_118 rfl (lv_at hl 1 rfl) ?_
  refine va_get (D := D) (ci := 3) (v := .int sz1) (C := RX3) (T := TX3) (N := 9) hx hb hts iX3 hown hK hP 5 rfl rfl 7 (by decide) (hts (.fieldLink RX6 150 "UncertainBook$Formula" "size" "I") (by decide +kernel)) (fun _ h9 => h9) rfl dX6_model_119 ?_
  refine W.widen (k := 8) (n := 429) (Nat.le_of_ble_eq_true rfl) (Nat.le_of_ble_eq_true rfl) ?_
  exact W.iret hx hb hr (fun t ht hW => ⟨⟨_, (fun _ => 0), rfl, rfl, by rw [ht]; exact hP, va_K.moved hW.alike hK, hD⟩, hS.F ht⟩) hS.2.2 dX6_model_122
