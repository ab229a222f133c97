def fX7_thrown (Mthrown : Int32) : Option (Int32) := some (Mthrown)
abbrev rmX7_thrown : Room := { frames := 0, cells := 0, slots := 0, locals := 0 }
set_option maxHeartbeats 4000000 in
set_option maxRecDepth 100000 in
theorem met_X7_thrown (l : Launch) (D : va_G) (k : Nat → ClassId)  (aM : Nat → Nat) (sz : Nat) (Mestimate : Nat → Int32) (Munit : Nat → Int32) (Msort : Nat → Int32) (Mwidth : Nat → Int32) (Mmany : Nat → Int32) (Mreading : Nat → Int32) (Mvariance : Nat → Int32) (Mcovariance : Nat → Int32) (Mline : Nat → Int32) (Mformulas : Nat → Int32) (Mroot : Nat → Int32) (Mkind : Nat → Int32) (Mone : Nat → Int32) (Mother : Nat → Int32) (Msigns : Nat → Int32) (Mplace : Nat → Int32) (MleftOf : Nat → Int32) (MrightOf : Nat → Int32) (Mtype : Nat → Int32) (Msum : Nat → Int32) (Msign : Nat → Int32) (MsignAt : Nat → Int32) (Mproduct : Nat → Int32) (Mvalue : Nat → Int64) (Mslope : Nat → Int64) (Mexponent : Nat → Int32) (Mdrawn : Nat → Int32) (Mslopes : Nat → Int64) (Mfrom : Nat → Int32) (Mfactor : Nat → Int32) (Mthrown : Int32) (Mlength : Int32) (Mmodels : Int32) (Mopen : Int32) (Mat : Int32) (Mrows : Int32) (Mx : Int32)  (r : Int32) (h : fX7_thrown Mthrown = some r) : Met l yX7_thrown wsX7_thrown rmX7_thrown (va_Pc [.ref (aM 0)] (PreW D k (wM k aM Mestimate Munit Msort Mwidth Mmany Mreading Mvariance Mcovariance Mline Mformulas Mroot Mkind Mone Mother Msigns Mplace MleftOf MrightOf Mtype Msum Msign MsignAt Mproduct Mvalue Mslope Mexponent Mdrawn Mslopes Mfrom Mfactor Mthrown Mlength Mmodels Mopen Mat Mrows Mx) sz)) (va_Qi (fun r9 (_ : Unit) => r9 = r) (fun _ t => PostW D k (va_A (wM k aM Mestimate Munit Msort Mwidth Mmany Mreading Mvariance Mcovariance Mline Mformulas Mroot Mkind Mone Mother Msigns Mplace MleftOf MrightOf Mtype Msum Msign MsignAt Mproduct Mvalue Mslope Mexponent Mdrawn Mslopes Mfrom Mfactor Mthrown Mlength Mmodels Mopen Mat Mrows Mx) sz) (wM k aM Mestimate Munit Msort Mwidth Mmany Mreading Mvariance Mcovariance Mline Mformulas Mroot Mkind Mone Mother Msigns Mplace MleftOf MrightOf Mtype Msum Msign MsignAt Mproduct Mvalue Mslope Mexponent Mdrawn Mslopes Mfrom Mfactor Mthrown Mlength Mmodels Mopen Mat Mrows Mx) t) (va_A (wM k aM Mestimate Munit Msort Mwidth Mmany Mreading Mvariance Mcovariance Mline Mformulas Mroot Mkind Mone Mother Msigns Mplace MleftOf MrightOf Mtype Msum Msign MsignAt Mproduct Mvalue Mslope Mexponent Mdrawn Mslopes Mfrom Mfactor Mthrown Mlength Mmodels Mopen Mat Mrows Mx) sz)) 0 0 (va_A (wM k aM Mestimate Munit Msort Mwidth Mmany Mreading Mvariance Mcovariance Mline Mformulas Mroot Mkind Mone Mother Msigns Mplace MleftOf MrightOf Mtype Msum Msign MsignAt Mproduct Mvalue Mslope Mexponent Mdrawn Mslopes Mfrom Mfactor Mthrown Mlength Mmodels Mopen Mat Mrows Mx) sz) := by
  refine Met.ofW (cc := cX7_thrown) (maxL := 1) (ret := (some .int)) (by decide) rfl ?_
  intro p e s m args below meth c s₁ B hml hv
  obtain ⟨hav, hsz, hP, hK, hD0⟩ := hv
  have hx := B.exec
  have hb := B.bytes
  have hr := B.returns
  have hts := atoms_spec (ws := wsX7_thrown) B.pre
  have hown : s.vm.findClass RX7 = some m.cls := findClass_of_methodNamed B.named
  have hlocks := B.notSynchronized
  subst hsz
  have hD := hD0.self (sz := s.heap.size)
  clear hD0
  generalize hAe : va_A (wM k aM Mestimate Munit Msort Mwidth Mmany Mreading Mvariance Mcovariance Mline Mformulas Mroot Mkind Mone Mother Msigns Mplace MleftOf MrightOf Mtype Msum Msign MsignAt Mproduct Mvalue Mslope Mexponent Mdrawn Mslopes Mfrom Mfactor Mthrown Mlength Mmodels Mopen Mat Mrows Mx) s.heap.size = A at hD ⊢
  have hA : ∀ q : Nat, s.heap.size ≤ q → A q := fun q h => by rw [← hAe]; exact Or.inr h
  have hS : va_S A s.heap s.heap [] := va_S.rf
  have hl := lv_entry ([.ref (aM 0)]) (n := 1) (Nat.le_of_ble_eq_true rfl)
  rw [show entryFrame m args 1 = entryFrame m ([.ref (aM 0)] : List Value).toArray 1 from by rw [hav], lg_entry_eq]
  generalize (lg_sl ([.ref (aM 0)]) ++ List.replicate (1 - (lg_sl ([.ref (aM 0)])).length) Slot.unset).toArray = ls at hl ⊢
  replace hl : lv_has ls 1 [(0, .ref (aM 0))] := hl
  have f108 := hts (.fieldLink RX7 108 "UncertainBookModel" "thrown" "I") (by decide +kernel)
  have iX7 : ∀ w ∈ u_ws RX7 TX7 37, w ∈ wsX7_thrown := by decide +kernel
  refine w_q (fun Q hQ => ?_)
  unfold fX7_thrown at h
  show W p l e rmX7_thrown s m args below meth c s.heap [] 0 0 Q (F0 m 0 ls [])
  suffices main : ∀ (H : Heap) (locs : List Loc) (ls : Array Slot), va_P D vwCl (wM k aM Mestimate Munit Msort Mwidth Mmany Mreading Mvariance Mcovariance Mline Mformulas Mroot Mkind Mone Mother Msigns Mplace MleftOf MrightOf Mtype Msum Msign MsignAt Mproduct Mvalue Mslope Mexponent Mdrawn Mslopes Mfrom Mfactor Mthrown Mlength Mmodels Mopen Mat Mrows Mx) H → va_D A (wM k aM Mestimate Munit Msort Mwidth Mmany Mreading Mvariance Mcovariance Mline Mformulas Mroot Mkind Mone Mother Msigns Mplace MleftOf MrightOf Mtype Msum Msign MsignAt Mproduct Mvalue Mslope Mexponent Mdrawn Mslopes Mfrom Mfactor Mthrown Mlength Mmodels Mopen Mat Mrows Mx) → va_S A s.heap H locs → lv_has ls 1 [(0, .ref (aM 0))] → W p l e rmX7_thrown s m args below meth c H locs 0 0 Q (F0 m 0 ls []) from main _ _ _ hP hD hS hl
  clear hP hD hS hl ls hAe
  intro H locs ls hP hD hS hl
  refine lv_aload_n hx hb dX7_thrown_0 rfl (lv_at hl 0 rfl) ?_
  refine va_get (D := D) (ci := 7) (v := .int Mthrown) (C := RX7) (T := TX7) (N := 37) hx hb hts iX7 hown hK hP 0 rfl rfl 0 (by decide) f108 (fun _ h9 => h9) rfl dX7_thrown_1 ?_
  have hP9 := hP
  have hD9 := hD
  have hS9 := hS
  subst hQ
  cases h
  exact W.iret hx hb hr (fun t ht hW => ⟨⟨_, (), rfl, rfl, by rw [ht]; exact hP9, va_K.moved hW.alike hK, hD9⟩, hS9.F ht⟩) hS9.2.2 dX7_thrown_4
def fX7_holds (v1 : Int32) (Mthrown : Int32) : Option (Int32 × Int32) := (if v1 = 0 then some (1, v1) else some (0, v1))
abbrev rmX7_holds : Room := { frames := 0, cells := 0, slots := 0, locals := 0 }
set_option maxHeartbeats 4000000 in
set_option maxRecDepth 100000 in
theorem met_X7_holds (l : Launch) (D : va_G) (k : Nat → ClassId)  (aM : Nat → Nat) (sz : Nat) (Mestimate : Nat → Int32) (Munit : Nat → Int32) (Msort : Nat → Int32) (Mwidth : Nat → Int32) (Mmany : Nat → Int32) (Mreading : Nat → Int32) (Mvariance : Nat → Int32) (Mcovariance : Nat → Int32) (Mline : Nat → Int32) (Mformulas : Nat → Int32) (Mroot : Nat → Int32) (Mkind : Nat → Int32) (Mone : Nat → Int32) (Mother : Nat → Int32) (Msigns : Nat → Int32) (Mplace : Nat → Int32) (MleftOf : Nat → Int32) (MrightOf : Nat → Int32) (Mtype : Nat → Int32) (Msum : Nat → Int32) (Msign : Nat → Int32) (MsignAt : Nat → Int32) (Mproduct : Nat → Int32) (Mvalue : Nat → Int64) (Mslope : Nat → Int64) (Mexponent : Nat → Int32) (Mdrawn : Nat → Int32) (Mslopes : Nat → Int64) (Mfrom : Nat → Int32) (Mfactor : Nat → Int32) (Mthrown : Int32) (Mlength : Int32) (Mmodels : Int32) (Mopen : Int32) (Mat : Int32) (Mrows : Int32) (Mx : Int32) (v1 : Int32) (r : Int32) (RMthrown : Int32) (h : fX7_holds v1 Mthrown = some (r, RMthrown)) : Met l yX7_holds wsX7_holds rmX7_holds (va_Pc [.ref (aM 0), .int v1] (PreW D k (wM k aM Mestimate Munit Msort Mwidth Mmany Mreading Mvariance Mcovariance Mline Mformulas Mroot Mkind Mone Mother Msigns Mplace MleftOf MrightOf Mtype Msum Msign MsignAt Mproduct Mvalue Mslope Mexponent Mdrawn Mslopes Mfrom Mfactor Mthrown Mlength Mmodels Mopen Mat Mrows Mx) sz)) (va_Qi (fun r9 (_ : Unit) => r9 = r) (fun _ t => PostW D k (va_A (wM k aM Mestimate Munit Msort Mwidth Mmany Mreading Mvariance Mcovariance Mline Mformulas Mroot Mkind Mone Mother Msigns Mplace MleftOf MrightOf Mtype Msum Msign MsignAt Mproduct Mvalue Mslope Mexponent Mdrawn Mslopes Mfrom Mfactor Mthrown Mlength Mmodels Mopen Mat Mrows Mx) sz) (wM k aM Mestimate Munit Msort Mwidth Mmany Mreading Mvariance Mcovariance Mline Mformulas Mroot Mkind Mone Mother Msigns Mplace MleftOf MrightOf Mtype Msum Msign MsignAt Mproduct Mvalue Mslope Mexponent Mdrawn Mslopes Mfrom Mfactor RMthrown Mlength Mmodels Mopen Mat Mrows Mx) t) (va_A (wM k aM Mestimate Munit Msort Mwidth Mmany Mreading Mvariance Mcovariance Mline Mformulas Mroot Mkind Mone Mother Msigns Mplace MleftOf MrightOf Mtype Msum Msign MsignAt Mproduct Mvalue Mslope Mexponent Mdrawn Mslopes Mfrom Mfactor Mthrown Mlength Mmodels Mopen Mat Mrows Mx) sz)) 0 0 (va_A (wM k aM Mestimate Munit Msort Mwidth Mmany Mreading Mvariance Mcovariance Mline Mformulas Mroot Mkind Mone Mother Msigns Mplace MleftOf MrightOf Mtype Msum Msign MsignAt Mproduct Mvalue Mslope Mexponent Mdrawn Mslopes Mfrom Mfactor Mthrown Mlength Mmodels Mopen Mat Mrows Mx) sz) := by
  refine Met.ofW (cc := cX7_holds) (maxL := 2) (ret := (some .boolean)) (by decide) rfl ?_
  intro p e s m args below meth c s₁ B hml hv
  obtain ⟨hav, hsz, hP, hK, hD0⟩ := hv
  have hx := B.exec
  have hb := B.bytes
  have hr := B.returns
  have hts := atoms_spec (ws := wsX7_holds) B.pre
  have hown : s.vm.findClass RX7 = some m.cls := findClass_of_methodNamed B.named
  have hlocks := B.notSynchronized
  subst hsz
  have hD := hD0.self (sz := s.heap.size)
  clear hD0
  generalize hAe : va_A (wM k aM Mestimate Munit Msort Mwidth Mmany Mreading Mvariance Mcovariance Mline Mformulas Mroot Mkind Mone Mother Msigns Mplace MleftOf MrightOf Mtype Msum Msign MsignAt Mproduct Mvalue Mslope Mexponent Mdrawn Mslopes Mfrom Mfactor Mthrown Mlength Mmodels Mopen Mat Mrows Mx) s.heap.size = A at hD ⊢
  have hA : ∀ q : Nat, s.heap.size ≤ q → A q := fun q h => by rw [← hAe]; exact Or.inr h
  have hS : va_S A s.heap s.heap [] := va_S.rf
  have hl := lv_entry ([.ref (aM 0), .int v1]) (n := 2) (Nat.le_of_ble_eq_true rfl)
  rw [show entryFrame m args 2 = entryFrame m ([.ref (aM 0), .int v1] : List Value).toArray 2 from by rw [hav], lg_entry_eq]
  generalize (lg_sl ([.ref (aM 0), .int v1]) ++ List.replicate (2 - (lg_sl ([.ref (aM 0), .int v1])).length) Slot.unset).toArray = ls at hl ⊢
  replace hl : lv_has ls 2 [(0, .ref (aM 0)), (1, .int v1)] := hl
  have f108 := hts (.fieldLink RX7 108 "UncertainBookModel" "thrown" "I") (by decide +kernel)
  have iX7 : ∀ w ∈ u_ws RX7 TX7 37, w ∈ wsX7_holds := by decide +kernel
  refine w_q (fun Q hQ => ?_)
  unfold fX7_holds at h
  show W p l e rmX7_holds s m args below meth c s.heap [] 0 0 Q (F0 m 0 ls [])
  suffices main : ∀ (H : Heap) (locs : List Loc) (ls : Array Slot), va_P D vwCl (wM k aM Mestimate Munit Msort Mwidth Mmany Mreading Mvariance Mcovariance Mline Mformulas Mroot Mkind Mone Mother Msigns Mplace MleftOf MrightOf Mtype Msum Msign MsignAt Mproduct Mvalue Mslope Mexponent Mdrawn Mslopes Mfrom Mfactor Mthrown Mlength Mmodels Mopen Mat Mrows Mx) H → va_D A (wM k aM Mestimate Munit Msort Mwidth Mmany Mreading Mvariance Mcovariance Mline Mformulas Mroot Mkind Mone Mother Msigns Mplace MleftOf MrightOf Mtype Msum Msign MsignAt Mproduct Mvalue Mslope Mexponent Mdrawn Mslopes Mfrom Mfactor Mthrown Mlength Mmodels Mopen Mat Mrows Mx) → va_S A s.heap H locs → lv_has ls 2 [(0, .ref (aM 0)), (1, .int v1)] → W p l e rmX7_holds s m args below meth c H locs 0 0 Q (F0 m 0 ls []) from main _ _ _ hP hD hS hl
  clear hP hD hS hl ls hAe
  intro H locs ls hP hD hS hl
  refine lv_aload_n hx hb dX7_holds_0 rfl (lv_at hl 0 rfl) ?_
  refine lv_iload_n hx hb dX7_holds_1 rfl (lv_at hl 1 rfl) ?_
  refine va_put (D := D) (ci := 7) (v := .int v1) (ty := .int) (C := RX7) (T := TX7) (N := 37) hx hb hts iX7 tyX7 tyX7_ok nmX7 hown hK hP hD hS 0 rfl rfl 0 (by decide) f108 (fun _ h9 => h9) rfl (by decide +kernel) rfl rfl (Nat.le_of_ble_eq_true rfl) dX7_holds_2 (fun H locs hP hD hS => ?_)
  replace hP : va_P D vwCl (wM k aM Mestimate Munit Msort Mwidth Mmany Mreading Mvariance Mcovariance Mline Mformulas Mroot Mkind Mone Mother Msigns Mplace MleftOf MrightOf Mtype Msum Msign MsignAt Mproduct Mvalue Mslope Mexponent Mdrawn Mslopes Mfrom Mfactor v1 Mlength Mmodels Mopen Mat Mrows Mx) H := hP
  replace hD : va_D A (wM k aM Mestimate Munit Msort Mwidth Mmany Mreading Mvariance Mcovariance Mline Mformulas Mroot Mkind Mone Mother Msigns Mplace MleftOf MrightOf Mtype Msum Msign MsignAt Mproduct Mvalue Mslope Mexponent Mdrawn Mslopes Mfrom Mfactor v1 Mlength Mmodels Mopen Mat Mrows Mx) := hD
  refine lv_iload_n hx hb dX7_holds_5 rfl (lv_at hl 1 rfl) ?_
  refine lv_if_ne (tgt := 13) hx hb dX7_holds_6 (by decide) (fun c1 => ?_) (fun c1 => ?_)
  · replace h := sf_f c1 h
    refine lv_iconst (v := 0) hx hb dX7_holds_13 (by decide) ?_
    have hP9 := hP
    have hD9 := hD
    have hS9 := hS
    subst hQ
    cases h
    exact W.zret hx hb hr rfl (fun t ht hW => ⟨⟨_, (), rfl, rfl, by rw [ht]; exact hP9, va_K.moved hW.alike hK, hD9⟩, hS9.F ht⟩) hS9.2.2 dX7_holds_14
  · replace h := sf_t c1 h
    refine lv_iconst (v := 1) hx hb dX7_holds_9 (by decide) ?_
    refine lv_goto (tgt := 14) hx hb dX7_holds_10 (by decide) ?_
    have hP9 := hP
    have hD9 := hD
    have hS9 := hS
    subst hQ
    cases h
    exact W.zret hx hb hr rfl (fun t ht hW => ⟨⟨_, (), rfl, rfl, by rw [ht]; exact hP9, va_K.moved hW.alike hK, hD9⟩, hS9.F ht⟩) hS9.2.2 dX7_holds_14
def fX7_isIn (v0 : Int32) (v1 : Int32) (v2 : Int32) : Option (Int32) := (if v0 < v1 then some (0) else (if v2 < v0 then some (0) else some (1)))
abbrev rmX7_isIn : Room := { frames := 0, cells := 0, slots := 0, locals := 0 }
set_option maxHeartbeats 4000000 in
set_option maxRecDepth 100000 in
theorem met_X7_isIn (l : Launch) (D : va_G) (k : Nat → ClassId)   (sz : Nat)  (v0 : Int32) (v1 : Int32) (v2 : Int32) (r : Int32) (h : fX7_isIn v0 v1 v2 = some r) : Met l yX7_isIn wsX7_isIn rmX7_isIn (va_Pc [.int v0, .int v1, .int v2] (PreW D k ([] : va_W) sz)) (va_Qi (fun r9 (_ : Unit) => r9 = r) (fun _ t => PostW D k (va_A ([] : va_W) sz) ([] : va_W) t) (va_A ([] : va_W) sz)) 0 0 (va_A ([] : va_W) sz) := by
  refine Met.ofW (cc := cX7_isIn) (maxL := 3) (ret := (some .boolean)) (by decide) rfl ?_
  intro p e s m args below meth c s₁ B hml hv
  obtain ⟨hav, hsz, hP, hK, hD0⟩ := hv
  have hx := B.exec
  have hb := B.bytes
  have hr := B.returns
  have hts := atoms_spec (ws := wsX7_isIn) B.pre
  have hown : s.vm.findClass RX7 = some m.cls := findClass_of_methodNamed B.named
  have hlocks := B.notSynchronized
  subst hsz
  have hD := hD0.self (sz := s.heap.size)
  clear hD0
  generalize hAe : va_A ([] : va_W) s.heap.size = A at hD ⊢
  have hA : ∀ q : Nat, s.heap.size ≤ q → A q := fun q h => by rw [← hAe]; exact Or.inr h
  have hS : va_S A s.heap s.heap [] := va_S.rf
  have hl := lv_entry ([.int v0, .int v1, .int v2]) (n := 3) (Nat.le_of_ble_eq_true rfl)
  rw [show entryFrame m args 3 = entryFrame m ([.int v0, .int v1, .int v2] : List Value).toArray 3 from by rw [hav], lg_entry_eq]
  generalize (lg_sl ([.int v0, .int v1, .int v2]) ++ List.replicate (3 - (lg_sl ([.int v0, .int v1, .int v2])).length) Slot.unset).toArray = ls at hl ⊢
  replace hl : lv_has ls 3 [(0, .int v0), (1, .int v1), (2, .int v2)] := hl
  refine w_q (fun Q hQ => ?_)
  unfold fX7_isIn at h
  show W p l e rmX7_isIn s m args below meth c s.heap [] 0 0 Q (F0 m 0 ls [])
  suffices main : ∀ (H : Heap) (locs : List Loc) (ls : Array Slot), va_P D vwCl ([] : va_W) H → va_D A ([] : va_W) → va_S A s.heap H locs → lv_has ls 3 [(0, .int v0), (1, .int v1), (2, .int v2)] → W p l e rmX7_isIn s m args below meth c H locs 0 0 Q (F0 m 0 ls []) from main _ _ _ hP hD hS hl
  clear hP hD hS hl ls hAe
  intro H locs ls hP hD hS hl
  refine lv_iload_n hx hb dX7_isIn_0 rfl (lv_at hl 0 rfl) ?_
  refine lv_iload_n hx hb dX7_isIn_1 rfl (lv_at hl 1 rfl) ?_
  refine lv_icmp_lt (tgt := 14) hx hb dX7_isIn_2 (by decide) (fun c1 => ?_) (fun c1 => ?_)
  · replace h := sf_t c1 h
    refine lv_iconst (v := 0) hx hb dX7_isIn_14 (by decide) ?_
    have hP9 := hP
    have hD9 := hD
    have hS9 := hS
    subst hQ
    cases h
    exact W.zret hx hb hr rfl (fun t ht hW => ⟨⟨_, (), rfl, rfl, by rw [ht]; exact hP9, va_K.moved hW.alike hK, hD9⟩, hS9.F ht⟩) hS9.2.2 dX7_isIn_15
  · replace h := sf_f c1 h
    refine lv_iload_n hx hb dX7_isIn_5 rfl (lv_at hl 0 rfl) ?_
    refine lv_iload_n hx hb dX7_isIn_6 rfl (lv_at hl 2 rfl) ?_
    refine lv_icmp_gt (tgt := 14) hx hb dX7_isIn_7 (by decide) (fun c2 => ?_) (fun c2 => ?_)
    · replace h := sf_t c2 h
      refine lv_iconst (v := 0) hx hb dX7_isIn_14 (by decide) ?_
      have hP9 := hP
      have hD9 := hD
      have hS9 := hS
      subst hQ
      cases h
      exact W.zret hx hb hr rfl (fun t ht hW => ⟨⟨_, (), rfl, rfl, by rw [ht]; exact hP9, va_K.moved hW.alike hK, hD9⟩, hS9.F ht⟩) hS9.2.2 dX7_isIn_15
    · replace h := sf_f c2 h
      refine lv_iconst (v := 1) hx hb dX7_isIn_10 (by decide) ?_
      refine lv_goto (tgt := 15) hx hb dX7_isIn_11 (by decide) ?_
      have hP9 := hP
      have hD9 := hD
      have hS9 := hS
      subst hQ
      cases h
      exact W.zret hx hb hr rfl (fun t ht hW => ⟨⟨_, (), rfl, rfl, by rw [ht]; exact hP9, va_K.moved hW.alike hK, hD9⟩, hS9.F ht⟩) hS9.2.2 dX7_isIn_15
def fX7_isInput (v0 : Int32) : Option (Int32) := bnd1 (fX7_isIn v0 0 5) (fun r1 => gn .boolean r1 (some (r1)))
abbrev rmX7_isInput : Room := { frames := 1, cells := 0, slots := 0, locals := 22 }
set_option maxHeartbeats 4000000 in
set_option maxRecDepth 100000 in
theorem met_X7_isInput (l : Launch) (D : va_G) (k : Nat → ClassId)   (sz : Nat)  (v0 : Int32) (r : Int32) (h : fX7_isInput v0 = some r) : Met l yX7_isInput wsX7_isInput rmX7_isInput (va_Pc [.int v0] (PreW D k ([] : va_W) sz)) (va_Qi (fun r9 (_ : Unit) => r9 = r) (fun _ t => PostW D k (va_A ([] : va_W) sz) ([] : va_W) t) (va_A ([] : va_W) sz)) 0 0 (va_A ([] : va_W) sz) := by
  refine Met.ofW (cc := cX7_isInput) (maxL := 1) (ret := (some .boolean)) (by decide) rfl ?_
  intro p e s m args below meth c s₁ B hml hv
  obtain ⟨hav, hsz, hP, hK, hD0⟩ := hv
  have hx := B.exec
  have hb := B.bytes
  have hr := B.returns
  have hts := atoms_spec (ws := wsX7_isInput) B.pre
  have hown : s.vm.findClass RX7 = some m.cls := findClass_of_methodNamed B.named
  have hlocks := B.notSynchronized
  subst hsz
  have hD := hD0.self (sz := s.heap.size)
  clear hD0
  generalize hAe : va_A ([] : va_W) s.heap.size = A at hD ⊢
  have hA : ∀ q : Nat, s.heap.size ≤ q → A q := fun q h => by rw [← hAe]; exact Or.inr h
  have hS : va_S A s.heap s.heap [] := va_S.rf
  have hl := lv_entry ([.int v0]) (n := 1) (Nat.le_of_ble_eq_true rfl)
  rw [show entryFrame m args 1 = entryFrame m ([.int v0] : List Value).toArray 1 from by rw [hav], lg_entry_eq]
  generalize (lg_sl ([.int v0]) ++ List.replicate (1 - (lg_sl ([.int v0])).length) Slot.unset).toArray = ls at hl ⊢
  replace hl : lv_has ls 1 [(0, .int v0)] := hl
  refine w_q (fun Q hQ => ?_)
  unfold fX7_isInput at h
  show W p l e rmX7_isInput s m args below meth c s.heap [] 0 0 Q (F0 m 0 ls [])
  suffices main : ∀ (H : Heap) (locs : List Loc) (ls : Array Slot), va_P D vwCl ([] : va_W) H → va_D A ([] : va_W) → va_S A s.heap H locs → lv_has ls 1 [(0, .int v0)] → W p l e rmX7_isInput s m args below meth c H locs 0 0 Q (F0 m 0 ls []) from main _ _ _ hP hD hS hl
  clear hP hD hS hl ls hAe
  intro H locs ls hP hD hS hl
  refine lv_iload_n hx hb dX7_isInput_0 rfl (lv_at hl 0 rfl) ?_
  refine lv_iconst (v := 0) hx hb dX7_isInput_1 (by decide) ?_
  refine lv_iconst (v := 5) hx hb dX7_isInput_2 (by decide) ?_
  obtain ⟨r1, hc1, h⟩ := bnd1_inv h
  have hFc := va_free (wc := ([] : va_W)) hD hS hA [] rfl
  refine xc_i (va_runS (As := [.int v0, .int 0, .int 5]) (rest := []) ⟨hx, hb, hml, hown, hts⟩ (met_X7_isIn l D k  H.size v0 0 5 r1 hc1) (va_cwS 3 hts gX7_isInput_X7_isIn rfl rfl rfl (by decide +kernel) ⟨Nat.le_of_ble_eq_true rfl, Nat.le_of_ble_eq_true rfl⟩) ⟨pw_blind, pw_start hP hK hD⟩ rfl rfl hl.1 rfl (lv_room (Nat.le_of_ble_eq_true rfl)) dX7_isInput_3 ⟨Nat.zero_le _, Nat.zero_le _⟩) hS hFc (fun H1 locs hP1 hD1 hk1 hS => ?_)
  obtain ⟨hP, hD⟩ := vj_all hFc hP1 hD1
  clear hP1 hD1 hk1 hFc
  generalize H1 = H at hP hS ⊢
  obtain ⟨hnr, h⟩ := gn_inv h
  have hP9 := hP
  have hD9 := hD
  have hS9 := hS
  subst hQ
  cases h
  exact W.zret hx hb hr hnr (fun t ht hW => ⟨⟨_, (), rfl, rfl, by rw [ht]; exact hP9, va_K.moved hW.alike hK, hD9⟩, hS9.F ht⟩) hS9.2.2 dX7_isInput_6
def fX7_isModel (v1 : Int32) (Mmodels : Int32) : Option (Int32) := bnd1 (fX7_isIn v1 0 (Mmodels - 1)) (fun r1 => gn .boolean r1 (some (r1)))
abbrev rmX7_isModel : Room := { frames := 1, cells := 0, slots := 0, locals := 22 }
set_option maxHeartbeats 4000000 in
set_option maxRecDepth 100000 in
theorem met_X7_isModel (l : Launch) (D : va_G) (k : Nat → ClassId)  (aM : Nat → Nat) (sz : Nat) (Mestimate : Nat → Int32) (Munit : Nat → Int32) (Msort : Nat → Int32) (Mwidth : Nat → Int32) (Mmany : Nat → Int32) (Mreading : Nat → Int32) (Mvariance : Nat → Int32) (Mcovariance : Nat → Int32) (Mline : Nat → Int32) (Mformulas : Nat → Int32) (Mroot : Nat → Int32) (Mkind : Nat → Int32) (Mone : Nat → Int32) (Mother : Nat → Int32) (Msigns : Nat → Int32) (Mplace : Nat → Int32) (MleftOf : Nat → Int32) (MrightOf : Nat → Int32) (Mtype : Nat → Int32) (Msum : Nat → Int32) (Msign : Nat → Int32) (MsignAt : Nat → Int32) (Mproduct : Nat → Int32) (Mvalue : Nat → Int64) (Mslope : Nat → Int64) (Mexponent : Nat → Int32) (Mdrawn : Nat → Int32) (Mslopes : Nat → Int64) (Mfrom : Nat → Int32) (Mfactor : Nat → Int32) (Mthrown : Int32) (Mlength : Int32) (Mmodels : Int32) (Mopen : Int32) (Mat : Int32) (Mrows : Int32) (Mx : Int32) (v1 : Int32) (r : Int32) (h : fX7_isModel v1 Mmodels = some r) : Met l yX7_isModel wsX7_isModel rmX7_isModel (va_Pc [.ref (aM 0), .int v1] (PreW D k (wM k aM Mestimate Munit Msort Mwidth Mmany Mreading Mvariance Mcovariance Mline Mformulas Mroot Mkind Mone Mother Msigns Mplace MleftOf MrightOf Mtype Msum Msign MsignAt Mproduct Mvalue Mslope Mexponent Mdrawn Mslopes Mfrom Mfactor Mthrown Mlength Mmodels Mopen Mat Mrows Mx) sz)) (va_Qi (fun r9 (_ : Unit) => r9 = r) (fun _ t => PostW D k (va_A (wM k aM Mestimate Munit Msort Mwidth Mmany Mreading Mvariance Mcovariance Mline Mformulas Mroot Mkind Mone Mother Msigns Mplace MleftOf MrightOf Mtype Msum Msign MsignAt Mproduct Mvalue Mslope Mexponent Mdrawn Mslopes Mfrom Mfactor Mthrown Mlength Mmodels Mopen Mat Mrows Mx) sz) (wM k aM Mestimate Munit Msort Mwidth Mmany Mreading Mvariance Mcovariance Mline Mformulas Mroot Mkind Mone Mother Msigns Mplace MleftOf MrightOf Mtype Msum Msign MsignAt Mproduct Mvalue Mslope Mexponent Mdrawn Mslopes Mfrom Mfactor Mthrown Mlength Mmodels Mopen Mat Mrows Mx) t) (va_A (wM k aM Mestimate Munit Msort Mwidth Mmany Mreading Mvariance Mcovariance Mline Mformulas Mroot Mkind Mone Mother Msigns Mplace MleftOf MrightOf Mtype Msum Msign MsignAt Mproduct Mvalue Mslope Mexponent Mdrawn Mslopes Mfrom Mfactor Mthrown Mlength Mmodels Mopen Mat Mrows Mx) sz)) 0 0 (va_A (wM k aM Mestimate Munit Msort Mwidth Mmany Mreading Mvariance Mcovariance Mline Mformulas Mroot Mkind Mone Mother Msigns Mplace MleftOf MrightOf Mtype Msum Msign MsignAt Mproduct Mvalue Mslope Mexponent Mdrawn Mslopes Mfrom Mfactor Mthrown Mlength Mmodels Mopen Mat Mrows Mx) sz) := by
  refine Met.ofW (cc := cX7_isModel) (maxL := 2) (ret := (some .boolean)) (by decide) rfl ?_
  intro p e s m args below meth c s₁ B hml hv
  obtain ⟨hav, hsz, hP, hK, hD0⟩ := hv
  have hx := B.exec
  have hb := B.bytes
  have hr := B.returns
  have hts := atoms_spec (ws := wsX7_isModel) B.pre
  have hown : s.vm.findClass RX7 = some m.cls := findClass_of_methodNamed B.named
  have hlocks := B.notSynchronized
  subst hsz
  have hD := hD0.self (sz := s.heap.size)
  clear hD0
  generalize hAe : va_A (wM k aM Mestimate Munit Msort Mwidth Mmany Mreading Mvariance Mcovariance Mline Mformulas Mroot Mkind Mone Mother Msigns Mplace MleftOf MrightOf Mtype Msum Msign MsignAt Mproduct Mvalue Mslope Mexponent Mdrawn Mslopes Mfrom Mfactor Mthrown Mlength Mmodels Mopen Mat Mrows Mx) s.heap.size = A at hD ⊢
  have hA : ∀ q : Nat, s.heap.size ≤ q → A q := fun q h => by rw [← hAe]; exact Or.inr h
  have hS : va_S A s.heap s.heap [] := va_S.rf
  have hl := lv_entry ([.ref (aM 0), .int v1]) (n := 2) (Nat.le_of_ble_eq_true rfl)
  rw [show entryFrame m args 2 = entryFrame m ([.ref (aM 0), .int v1] : List Value).toArray 2 from by rw [hav], lg_entry_eq]
  generalize (lg_sl ([.ref (aM 0), .int v1]) ++ List.replicate (2 - (lg_sl ([.ref (aM 0), .int v1])).length) Slot.unset).toArray = ls at hl ⊢
  replace hl : lv_has ls 2 [(0, .ref (aM 0)), (1, .int v1)] := hl
  have f115 := hts (.fieldLink RX7 115 "UncertainBookModel" "models" "I") (by decide +kernel)
  have iX7 : ∀ w ∈ u_ws RX7 TX7 37, w ∈ wsX7_isModel := by decide +kernel
  refine w_q (fun Q hQ => ?_)
  unfold fX7_isModel at h
  show W p l e rmX7_isModel s m args below meth c s.heap [] 0 0 Q (F0 m 0 ls [])
  suffices main : ∀ (H : Heap) (locs : List Loc) (ls : Array Slot), va_P D vwCl (wM k aM Mestimate Munit Msort Mwidth Mmany Mreading Mvariance Mcovariance Mline Mformulas Mroot Mkind Mone Mother Msigns Mplace MleftOf MrightOf Mtype Msum Msign MsignAt Mproduct Mvalue Mslope Mexponent Mdrawn Mslopes Mfrom Mfactor Mthrown Mlength Mmodels Mopen Mat Mrows Mx) H → va_D A (wM k aM Mestimate Munit Msort Mwidth Mmany Mreading Mvariance Mcovariance Mline Mformulas Mroot Mkind Mone Mother Msigns Mplace MleftOf MrightOf Mtype Msum Msign MsignAt Mproduct Mvalue Mslope Mexponent Mdrawn Mslopes Mfrom Mfactor Mthrown Mlength Mmodels Mopen Mat Mrows Mx) → va_S A s.heap H locs → lv_has ls 2 [(0, .ref (aM 0)), (1, .int v1)] → W p l e rmX7_isModel s m args below meth c H locs 0 0 Q (F0 m 0 ls []) from main _ _ _ hP hD hS hl
  clear hP hD hS hl ls hAe
  intro H locs ls hP hD hS hl
  refine lv_iload_n hx hb dX7_isModel_0 rfl (lv_at hl 1 rfl) ?_
  refine lv_iconst (v := 0) hx hb dX7_isModel_1 (by decide) ?_
  refine lv_aload_n hx hb dX7_isModel_2 rfl (lv_at hl 0 rfl) ?_
  refine va_get (D := D) (ci := 7) (v := .int Mmodels) (C := RX7) (T := TX7) (N := 37) hx hb hts iX7 hown hK hP 0 rfl rfl 11 (by decide) f115 (fun _ h9 => h9) rfl dX7_isModel_3 ?_
  refine lv_iconst (v := 1) hx hb dX7_isModel_6 (by decide) ?_
  refine lv_isub hx hb dX7_isModel_7 ?_
  obtain ⟨r1, hc1, h⟩ := bnd1_inv h
  have hPc := hP.sub (ws' := ([] : va_W)) [] rfl
  have hDc := hD.sub (ws' := ([] : va_W)) [] rfl rfl
  have hFc := va_free (wc := ([] : va_W)) hD hS hA [] rfl
  refine xc_i (va_runS (As := [.int v1, .int 0, .int (Mmodels - 1)]) (rest := []) ⟨hx, hb, hml, hown, hts⟩ (met_X7_isIn l D k  H.size v1 0 (Mmodels - 1) r1 hc1) (va_cwS 3 hts gX7_isModel_X7_isIn rfl rfl rfl (by decide +kernel) ⟨Nat.le_of_ble_eq_true rfl, Nat.le_of_ble_eq_true rfl⟩) ⟨pw_blind, pw_start hPc hK hDc⟩ rfl rfl hl.1 rfl (lv_room (Nat.le_of_ble_eq_true rfl)) dX7_isModel_8 ⟨Nat.zero_le _, Nat.zero_le _⟩) hS hFc (fun H1 locs hP1 hD1 hk1 hS => ?_)
  obtain ⟨hP, hD⟩ := vj (ws' := (wM k aM Mestimate Munit Msort Mwidth Mmany Mreading Mvariance Mcovariance Mline Mformulas Mroot Mkind Mone Mother Msigns Mplace MleftOf MrightOf Mtype Msum Msign MsignAt Mproduct Mvalue Mslope Mexponent Mdrawn Mslopes Mfrom Mfactor Mthrown Mlength Mmodels Mopen Mat Mrows Mx)) (w1 := ([] : va_W)) hP hD [] [0, 1, 2, 3, 4, 5, 6, 7, 8, 9, 10, 11, 12, 13, 14, 15, 16, 17, 18, 19, 20, 21, 22, 23, 24, 25, 26, 27, 28, 29, 30] [0, 1, 2, 3, 4, 5, 6, 7, 8, 9, 10, 11, 12, 13, 14, 15, 16, 17, 18, 19, 20, 21, 22, 23, 24, 25, 26, 27, 28, 29, 30] rfl rfl rfl rfl rfl hk1 hFc hP1 hD1
  clear hP1 hD1 hk1 hFc
  generalize H1 = H at hP hS ⊢
  obtain ⟨hnr, h⟩ := gn_inv h
  have hP9 := hP
  have hD9 := hD
  have hS9 := hS
  subst hQ
  cases h
  exact W.zret hx hb hr hnr (fun t ht hW => ⟨⟨_, (), rfl, rfl, by rw [ht]; exact hP9, va_K.moved hW.alike hK, hD9⟩, hS9.F ht⟩) hS9.2.2 dX7_isModel_11
def BX7_shape_146 (v1 : Int32) (v2 : Int32) (v3 : Int32) (v4 : Int32)  (s1 : Int32) (s2 : Int32) (Mestimate : Nat → Int32) (Msort : Nat → Int32) (Mwidth : Nat → Int32) (Mmany : Nat → Int32) (Mvariance : Nat → Int32) (Mthrown : Int32) : Option (Int32 × (Nat → Int32) × (Nat → Int32) × (Nat → Int32) × (Nat → Int32) × (Nat → Int32) × Int32) := gi s1 6 (gi v1 6 (some ((upd Mvariance (s1.toNatClampNeg) s2) v1.toNatClampNeg, Mestimate, Msort, Mwidth, Mmany, upd Mvariance (s1.toNatClampNeg) s2, Mthrown)))
def BX7_shape_145 (v1 : Int32) (v2 : Int32) (v3 : Int32) (v4 : Int32)  (s1 : Int32) (s2 : Int32) (s3 : Int32) (Mestimate : Nat → Int32) (Msort : Nat → Int32) (Mwidth : Nat → Int32) (Mmany : Nat → Int32) (Mvariance : Nat → Int32) (Mthrown : Int32) : Option (Int32 × (Nat → Int32) × (Nat → Int32) × (Nat → Int32) × (Nat → Int32) × (Nat → Int32) × Int32) := gz s3 (BX7_shape_146 v1 v2 v3 v4 s1 (s2 / s3) Mestimate Msort Mwidth Mmany Mvariance Mthrown)
def BX7_shape_70 (v1 : Int32) (v2 : Int32) (v3 : Int32) (v4 : Int32)  (s1 : Int32) (Mestimate : Nat → Int32) (Msort : Nat → Int32) (Mwidth : Nat → Int32) (Mmany : Nat → Int32) (Mvariance : Nat → Int32) (Mthrown : Int32) : Option (Int32 × (Nat → Int32) × (Nat → Int32) × (Nat → Int32) × (Nat → Int32) × (Nat → Int32) × Int32) := bnd2 (fX7_holds s1 Mthrown) (fun r6 thrown_6 => (if r6 = 0 then some (0, Mestimate, Msort, Mwidth, Mmany, Mvariance, thrown_6) else gi v1 6 (gi v1 6 (gi v1 6 (gi v1 6 ((if v3 = 0 then BX7_shape_146 v1 v2 v3 v4 v1 0 (upd Mestimate (v1.toNatClampNeg) v2) (upd Msort (v1.toNatClampNeg) v3) (upd Mwidth (v1.toNatClampNeg) v4) (upd Mmany (v1.toNatClampNeg) 0) Mvariance thrown_6 else (if v3 = 1 then BX7_shape_145 v1 v2 v3 v4 v1 (v4 * v4) 3 (upd Mestimate (v1.toNatClampNeg) v2) (upd Msort (v1.toNatClampNeg) v3) (upd Mwidth (v1.toNatClampNeg) v4) (upd Mmany (v1.toNatClampNeg) 0) Mvariance thrown_6 else (if v3 = 2 then BX7_shape_145 v1 v2 v3 v4 v1 (v4 * v4) 6 (upd Mestimate (v1.toNatClampNeg) v2) (upd Msort (v1.toNatClampNeg) v3) (upd Mwidth (v1.toNatClampNeg) v4) (upd Mmany (v1.toNatClampNeg) 0) Mvariance thrown_6 else BX7_shape_145 v1 v2 v3 v4 v1 (v4 * v4) 2 (upd Mestimate (v1.toNatClampNeg) v2) (upd Msort (v1.toNatClampNeg) v3) (upd Mwidth (v1.toNatClampNeg) v4) (upd Mmany (v1.toNatClampNeg) 0) Mvariance thrown_6)))))))))
def BX7_shape_46 (v1 : Int32) (v2 : Int32) (v3 : Int32) (v4 : Int32)  (s0 : Int32) (Mestimate : Nat → Int32) (Msort : Nat → Int32) (Mwidth : Nat → Int32) (Mmany : Nat → Int32) (Mvariance : Nat → Int32) (Mthrown : Int32) : Option (Int32 × (Nat → Int32) × (Nat → Int32) × (Nat → Int32) × (Nat → Int32) × (Nat → Int32) × Int32) := bnd1 (fX7_isInput v1) (fun r3 => (if r3 = 0 then BX7_shape_70 v1 v2 v3 v4 1 Mestimate Msort Mwidth Mmany Mvariance Mthrown else (if s0 = 0 then BX7_shape_70 v1 v2 v3 v4 2 Mestimate Msort Mwidth Mmany Mvariance Mthrown else BX7_shape_70 v1 v2 v3 v4 0 Mestimate Msort Mwidth Mmany Mvariance Mthrown)))
def BX7_shape_45 (v1 : Int32) (v2 : Int32) (v3 : Int32) (v4 : Int32)  (Mestimate : Nat → Int32) (Msort : Nat → Int32) (Mwidth : Nat → Int32) (Mmany : Nat → Int32) (Mvariance : Nat → Int32) (Mthrown : Int32) : Option (Int32 × (Nat → Int32) × (Nat → Int32) × (Nat → Int32) × (Nat → Int32) × (Nat → Int32) × Int32) := BX7_shape_46 v1 v2 v3 v4 0 Mestimate Msort Mwidth Mmany Mvariance Mthrown
def BX7_shape_35 (v1 : Int32) (v2 : Int32) (v3 : Int32) (v4 : Int32)  (s0 : Int32) (s1 : Int32) (s2 : Int32) (Mestimate : Nat → Int32) (Msort : Nat → Int32) (Mwidth : Nat → Int32) (Mmany : Nat → Int32) (Mvariance : Nat → Int32) (Mthrown : Int32) : Option (Int32 × (Nat → Int32) × (Nat → Int32) × (Nat → Int32) × (Nat → Int32) × (Nat → Int32) × Int32) := bnd1 (fX7_isIn s0 s1 s2) (fun r21 => (if r21 = 0 then BX7_shape_45 v1 v2 v3 v4 Mestimate Msort Mwidth Mmany Mvariance Mthrown else BX7_shape_46 v1 v2 v3 v4 1 Mestimate Msort Mwidth Mmany Mvariance Mthrown))
def fX7_shape (v1 : Int32) (v2 : Int32) (v3 : Int32) (v4 : Int32) (Mestimate : Nat → Int32) (Msort : Nat → Int32) (Mwidth : Nat → Int32) (Mmany : Nat → Int32) (Mvariance : Nat → Int32) (Mthrown : Int32) : Option (Int32 × (Nat → Int32) × (Nat → Int32) × (Nat → Int32) × (Nat → Int32) × (Nat → Int32) × Int32) := bnd1 (fX7_isIn v2 ((-999)) 999) (fun r1 => (if r1 = 0 then BX7_shape_45 v1 v2 v3 v4 Mestimate Msort Mwidth Mmany Mvariance Mthrown else bnd1 (fX7_isIn v3 0 3) (fun r18 => (if r18 = 0 then BX7_shape_45 v1 v2 v3 v4 Mestimate Msort Mwidth Mmany Mvariance Mthrown else (if v3 = 0 then BX7_shape_35 v1 v2 v3 v4 v4 0 0 Mestimate Msort Mwidth Mmany Mvariance Mthrown else BX7_shape_35 v1 v2 v3 v4 v4 0 99 Mestimate Msort Mwidth Mmany Mvariance Mthrown)))))
abbrev rmX7_shape : Room := { frames := 2, cells := 0, slots := 0, locals := 42 }
set_option maxHeartbeats 4000000 in
set_option maxRecDepth 100000 in
theorem met_X7_shape (l : Launch) (D : va_G) (k : Nat → ClassId)  (aM : Nat → Nat) (sz : Nat) (Mestimate : Nat → Int32) (Munit : Nat → Int32) (Msort : Nat → Int32) (Mwidth : Nat → Int32) (Mmany : Nat → Int32) (Mreading : Nat → Int32) (Mvariance : Nat → Int32) (Mcovariance : Nat → Int32) (Mline : Nat → Int32) (Mformulas : Nat → Int32) (Mroot : Nat → Int32) (Mkind : Nat → Int32) (Mone : Nat → Int32) (Mother : Nat → Int32) (Msigns : Nat → Int32) (Mplace : Nat → Int32) (MleftOf : Nat → Int32) (MrightOf : Nat → Int32) (Mtype : Nat → Int32) (Msum : Nat → Int32) (Msign : Nat → Int32) (MsignAt : Nat → Int32) (Mproduct : Nat → Int32) (Mvalue : Nat → Int64) (Mslope : Nat → Int64) (Mexponent : Nat → Int32) (Mdrawn : Nat → Int32) (Mslopes : Nat → Int64) (Mfrom : Nat → Int32) (Mfactor : Nat → Int32) (Mthrown : Int32) (Mlength : Int32) (Mmodels : Int32) (Mopen : Int32) (Mat : Int32) (Mrows : Int32) (Mx : Int32) (v1 : Int32) (v2 : Int32) (v3 : Int32) (v4 : Int32) (r : Int32) (RMestimate : Nat → Int32) (RMsort : Nat → Int32) (RMwidth : Nat → Int32) (RMmany : Nat → Int32) (RMvariance : Nat → Int32) (RMthrown : Int32) (h : fX7_shape v1 v2 v3 v4 Mestimate Msort Mwidth Mmany Mvariance Mthrown = some (r, RMestimate, RMsort, RMwidth, RMmany, RMvariance, RMthrown)) : Met l yX7_shape wsX7_shape rmX7_shape (va_Pc [.ref (aM 0), .int v1, .int v2, .int v3, .int v4] (PreW D k (wM k aM Mestimate Munit Msort Mwidth Mmany Mreading Mvariance Mcovariance Mline Mformulas Mroot Mkind Mone Mother Msigns Mplace MleftOf MrightOf Mtype Msum Msign MsignAt Mproduct Mvalue Mslope Mexponent Mdrawn Mslopes Mfrom Mfactor Mthrown Mlength Mmodels Mopen Mat Mrows Mx) sz)) (va_Qi (fun r9 (_ : Unit) => r9 = r) (fun _ t => PostW D k (va_A (wM k aM Mestimate Munit Msort Mwidth Mmany Mreading Mvariance Mcovariance Mline Mformulas Mroot Mkind Mone Mother Msigns Mplace MleftOf MrightOf Mtype Msum Msign MsignAt Mproduct Mvalue Mslope Mexponent Mdrawn Mslopes Mfrom Mfactor Mthrown Mlength Mmodels Mopen Mat Mrows Mx) sz) (wM k aM RMestimate Munit RMsort RMwidth RMmany Mreading RMvariance Mcovariance Mline Mformulas Mroot Mkind Mone Mother Msigns Mplace MleftOf MrightOf Mtype Msum Msign MsignAt Mproduct Mvalue Mslope Mexponent Mdrawn Mslopes Mfrom Mfactor RMthrown Mlength Mmodels Mopen Mat Mrows Mx) t) (va_A (wM k aM Mestimate Munit Msort Mwidth Mmany Mreading Mvariance Mcovariance Mline Mformulas Mroot Mkind Mone Mother Msigns Mplace MleftOf MrightOf Mtype Msum Msign MsignAt Mproduct Mvalue Mslope Mexponent Mdrawn Mslopes Mfrom Mfactor Mthrown Mlength Mmodels Mopen Mat Mrows Mx) sz)) 0 0 (va_A (wM k aM Mestimate Munit Msort Mwidth Mmany Mreading Mvariance Mcovariance Mline Mformulas Mroot Mkind Mone Mother Msigns Mplace MleftOf MrightOf Mtype Msum Msign MsignAt Mproduct Mvalue Mslope Mexponent Mdrawn Mslopes Mfrom Mfactor Mthrown Mlength Mmodels Mopen Mat Mrows Mx) sz) := by
  refine Met.ofW (cc := cX7_shape) (maxL := 6) (ret := (some .int)) (by decide) rfl ?_
  intro p e s m args below meth c s₁ B hml hv
  obtain ⟨hav, hsz, hP, hK, hD0⟩ := hv
  have hx := B.exec
  have hb := B.bytes
  have hr := B.returns
  have hts := atoms_spec (ws := wsX7_shape) B.pre
  have hown : s.vm.findClass RX7 = some m.cls := findClass_of_methodNamed B.named
  have hlocks := B.notSynchronized
  subst hsz
  have hD := hD0.self (sz := s.heap.size)
  clear hD0
  generalize hAe : va_A (wM k aM Mestimate Munit Msort Mwidth Mmany Mreading Mvariance Mcovariance Mline Mformulas Mroot Mkind Mone Mother Msigns Mplace MleftOf MrightOf Mtype Msum Msign MsignAt Mproduct Mvalue Mslope Mexponent Mdrawn Mslopes Mfrom Mfactor Mthrown Mlength Mmodels Mopen Mat Mrows Mx) s.heap.size = A at hD ⊢
  have hA : ∀ q : Nat, s.heap.size ≤ q → A q := fun q h => by rw [← hAe]; exact Or.inr h
  have hS : va_S A s.heap s.heap [] := va_S.rf
  have hl := lv_entry ([.ref (aM 0), .int v1, .int v2, .int v3, .int v4]) (n := 6) (Nat.le_of_ble_eq_true rfl)
  rw [show entryFrame m args 6 = entryFrame m ([.ref (aM 0), .int v1, .int v2, .int v3, .int v4] : List Value).toArray 6 from by rw [hav], lg_entry_eq]
  generalize (lg_sl ([.ref (aM 0), .int v1, .int v2, .int v3, .int v4]) ++ List.replicate (6 - (lg_sl ([.ref (aM 0), .int v1, .int v2, .int v3, .int v4])).length) Slot.unset).toArray = ls at hl ⊢
  replace hl : lv_has ls 6 [(0, .ref (aM 0)), (1, .int v1), (2, .int v2), (3, .int v3), (4, .int v4)] := hl
  have f7 := hts (.fieldLink RX7 7 "UncertainBookModel" "estimate" "[I") (by decide +kernel)
  have f16 := hts (.fieldLink RX7 16 "UncertainBookModel" "sort" "[I") (by decide +kernel)
  have f19 := hts (.fieldLink RX7 19 "UncertainBookModel" "width" "[I") (by decide +kernel)
  have f22 := hts (.fieldLink RX7 22 "UncertainBookModel" "many" "[I") (by decide +kernel)
  have f28 := hts (.fieldLink RX7 28 "UncertainBookModel" "variance" "[I") (by decide +kernel)
  have iX7 : ∀ w ∈ u_ws RX7 TX7 37, w ∈ wsX7_shape := by decide +kernel
  refine w_q (fun Q hQ => ?_)
  unfold fX7_shape at h
  show W p l e rmX7_shape s m args below meth c s.heap [] 0 0 Q (F0 m 0 ls [])
  have BH_146 : ∀ (s1 : Int32) (s2 : Int32) (Mestimate : Nat → Int32) (Msort : Nat → Int32) (Mwidth : Nat → Int32) (Mmany : Nat → Int32) (Mvariance : Nat → Int32) (Mthrown : Int32), BX7_shape_146 v1 v2 v3 v4 s1 s2 Mestimate Msort Mwidth Mmany Mvariance Mthrown = some (r, RMestimate, RMsort, RMwidth, RMmany, RMvariance, RMthrown) → ∀ (H : Heap) (locs : List Loc) (ls : Array Slot), va_P D vwCl (wM k aM Mestimate Munit Msort Mwidth Mmany Mreading Mvariance Mcovariance Mline Mformulas Mroot Mkind Mone Mother Msigns Mplace MleftOf MrightOf Mtype Msum Msign MsignAt Mproduct Mvalue Mslope Mexponent Mdrawn Mslopes Mfrom Mfactor Mthrown Mlength Mmodels Mopen Mat Mrows Mx) H → va_D A (wM k aM Mestimate Munit Msort Mwidth Mmany Mreading Mvariance Mcovariance Mline Mformulas Mroot Mkind Mone Mother Msigns Mplace MleftOf MrightOf Mtype Msum Msign MsignAt Mproduct Mvalue Mslope Mexponent Mdrawn Mslopes Mfrom Mfactor Mthrown Mlength Mmodels Mopen Mat Mrows Mx) → va_S A s.heap H locs → lv_has ls 6 [(0, .ref (aM 0)), (1, .int v1)] → W p l e rmX7_shape s m args below meth c H locs 0 0 Q (F0 m 146 ls [.int s2, .int s1, .ref (aM 7)]) := by
    intro  s1 s2 Mestimate Msort Mwidth Mmany Mvariance Mthrown h H locs ls hP hD hS hl
    unfold BX7_shape_146 at h
    obtain ⟨hi16, h⟩ := gi_inv h
    refine va_iast hx hb hK hP hD hS 7 0 rfl rfl hi16 dX7_shape_146 (fun H locs hP hD hS => ?_)
    replace hP : va_P D vwCl (wM k aM Mestimate Munit Msort Mwidth Mmany Mreading (upd Mvariance (s1.toNatClampNeg) s2) Mcovariance Mline Mformulas Mroot Mkind Mone Mother Msigns Mplace MleftOf MrightOf Mtype Msum Msign MsignAt Mproduct Mvalue Mslope Mexponent Mdrawn Mslopes Mfrom Mfactor Mthrown Mlength Mmodels Mopen Mat Mrows Mx) H := hP
    replace hD : va_D A (wM k aM Mestimate Munit Msort Mwidth Mmany Mreading (upd Mvariance (s1.toNatClampNeg) s2) Mcovariance Mline Mformulas Mroot Mkind Mone Mother Msigns Mplace MleftOf MrightOf Mtype Msum Msign MsignAt Mproduct Mvalue Mslope Mexponent Mdrawn Mslopes Mfrom Mfactor Mthrown Mlength Mmodels Mopen Mat Mrows Mx) := hD
    refine lv_aload_n hx hb dX7_shape_147 rfl (lv_at hl 0 rfl) ?_
    refine va_get (D := D) (ci := 7) (v := .ref (aM 7)) (C := RX7) (T := TX7) (N := 37) hx hb hts iX7 hown hK hP 0 rfl rfl 7 (by decide) f28 (fun _ h9 => h9) rfl dX7_shape_148 ?_
    refine lv_iload_n hx hb dX7_shape_151 rfl (lv_at hl 1 rfl) ?_
    obtain ⟨hi17, h⟩ := gi_inv h
    refine va_iald hx hb hK hP 7 0 rfl rfl hi17 dX7_shape_152 ?_
    have hP9 := hP
    have hD9 := hD
    have hS9 := hS
    subst hQ
    cases h
    exact W.iret hx hb hr (fun t ht hW => ⟨⟨_, (), rfl, rfl, by rw [ht]; exact hP9, va_K.moved hW.alike hK, hD9⟩, hS9.F ht⟩) hS9.2.2 dX7_shape_153
  have BH_145 : ∀ (s1 : Int32) (s2 : Int32) (s3 : Int32) (Mestimate : Nat → Int32) (Msort : Nat → Int32) (Mwidth : Nat → Int32) (Mmany : Nat → Int32) (Mvariance : Nat → Int32) (Mthrown : Int32), BX7_shape_145 v1 v2 v3 v4 s1 s2 s3 Mestimate Msort Mwidth Mmany Mvariance Mthrown = some (r, RMestimate, RMsort, RMwidth, RMmany, RMvariance, RMthrown) → ∀ (H : Heap) (locs : List Loc) (ls : Array Slot), va_P D vwCl (wM k aM Mestimate Munit Msort Mwidth Mmany Mreading Mvariance Mcovariance Mline Mformulas Mroot Mkind Mone Mother Msigns Mplace MleftOf MrightOf Mtype Msum Msign MsignAt Mproduct Mvalue Mslope Mexponent Mdrawn Mslopes Mfrom Mfactor Mthrown Mlength Mmodels Mopen Mat Mrows Mx) H → va_D A (wM k aM Mestimate Munit Msort Mwidth Mmany Mreading Mvariance Mcovariance Mline Mformulas Mroot Mkind Mone Mother Msigns Mplace MleftOf MrightOf Mtype Msum Msign MsignAt Mproduct Mvalue Mslope Mexponent Mdrawn Mslopes Mfrom Mfactor Mthrown Mlength Mmodels Mopen Mat Mrows Mx) → va_S A s.heap H locs → lv_has ls 6 [(0, .ref (aM 0)), (1, .int v1)] → W p l e rmX7_shape s m args below meth c H locs 0 0 Q (F0 m 145 ls [.int s3, .int s2, .int s1, .ref (aM 7)]) := by
    intro  s1 s2 s3 Mestimate Msort Mwidth Mmany Mvariance Mthrown h H locs ls hP hD hS hl
    unfold BX7_shape_145 at h
    obtain ⟨hz15, h⟩ := gz_inv h
    refine lv_idiv hx hb dX7_shape_145 hz15 ?_
    exact BH_146  _ _ _ _ _ _ _ _ h _ _ _ hP hD hS (lv_sub hl [0, 1] rfl)
  have BH_70 : ∀ (s1 : Int32) (Mestimate : Nat → Int32) (Msort : Nat → Int32) (Mwidth : Nat → Int32) (Mmany : Nat → Int32) (Mvariance : Nat → Int32) (Mthrown : Int32), BX7_shape_70 v1 v2 v3 v4 s1 Mestimate Msort Mwidth Mmany Mvariance Mthrown = some (r, RMestimate, RMsort, RMwidth, RMmany, RMvariance, RMthrown) → ∀ (H : Heap) (locs : List Loc) (ls : Array Slot), va_P D vwCl (wM k aM Mestimate Munit Msort Mwidth Mmany Mreading Mvariance Mcovariance Mline Mformulas Mroot Mkind Mone Mother Msigns Mplace MleftOf MrightOf Mtype Msum Msign MsignAt Mproduct Mvalue Mslope Mexponent Mdrawn Mslopes Mfrom Mfactor Mthrown Mlength Mmodels Mopen Mat Mrows Mx) H → va_D A (wM k aM Mestimate Munit Msort Mwidth Mmany Mreading Mvariance Mcovariance Mline Mformulas Mroot Mkind Mone Mother Msigns Mplace MleftOf MrightOf Mtype Msum Msign MsignAt Mproduct Mvalue Mslope Mexponent Mdrawn Mslopes Mfrom Mfactor Mthrown Mlength Mmodels Mopen Mat Mrows Mx) → va_S A s.heap H locs → lv_has ls 6 [(0, .ref (aM 0)), (1, .int v1), (2, .int v2), (3, .int v3), (4, .int v4)] → W p l e rmX7_shape s m args below meth c H locs 0 0 Q (F0 m 70 ls [.int s1, .ref (aM 0)]) := by
    intro  s1 Mestimate Msort Mwidth Mmany Mvariance Mthrown h H locs ls hP hD hS hl
    unfold BX7_shape_70 at h
    obtain ⟨r6, thrown_6, hc6, h⟩ := bnd2_inv h
    have hFc := va_free (wc := (wM k aM Mestimate Munit Msort Mwidth Mmany Mreading Mvariance Mcovariance Mline Mformulas Mroot Mkind Mone Mother Msigns Mplace MleftOf MrightOf Mtype Msum Msign MsignAt Mproduct Mvalue Mslope Mexponent Mdrawn Mslopes Mfrom Mfactor Mthrown Mlength Mmodels Mopen Mat Mrows Mx)) hD hS hA [0, 1, 2, 3, 4, 5, 6, 7, 8, 9, 10, 11, 12, 13, 14, 15, 16, 17, 18, 19, 20, 21, 22, 23, 24, 25, 26, 27, 28, 29, 30] rfl
    refine xc_i (va_runV (As := [.int s1]) (rest := []) ⟨hx, hb, hml, hown, hts⟩ (met_X7_holds l D k  aM H.size Mestimate Munit Msort Mwidth Mmany Mreading Mvariance Mcovariance Mline Mformulas Mroot Mkind Mone Mother Msigns Mplace MleftOf MrightOf Mtype Msum Msign MsignAt Mproduct Mvalue Mslope Mexponent Mdrawn Mslopes Mfrom Mfactor Mthrown Mlength Mmodels Mopen Mat Mrows Mx s1 r6 thrown_6 hc6) (cwV 1 hts gX7_shape_X7_holds rfl rfl rfl (by decide +kernel) ⟨Nat.le_of_ble_eq_true rfl, Nat.le_of_ble_eq_true rfl⟩) ⟨pw_blind, va_recv hK hP (ci := 7) (q0 := 0) rfl rfl, pw_start hP hK hD⟩ rfl rfl hl.1 rfl (lv_room (Nat.le_of_ble_eq_true rfl)) dX7_shape_70 ⟨Nat.zero_le _, Nat.zero_le _⟩) hS hFc (fun H1 locs hP1 hD1 hk1 hS => ?_)
    obtain ⟨hP, hD⟩ := vj_all hFc hP1 hD1
    clear hP1 hD1 hk1 hFc
    generalize H1 = H at hP hS ⊢
    refine lv_if_ne (tgt := 78) hx hb dX7_shape_73 (by decide) (fun c7 => ?_) (fun c7 => ?_)
    · replace h := sf_f c7 h
      refine lv_aload_n hx hb dX7_shape_78 rfl (lv_at hl 0 rfl) ?_
      refine va_get (D := D) (ci := 7) (v := .ref (aM 1)) (C := RX7) (T := TX7) (N := 37) hx hb hts iX7 hown hK hP 0 rfl rfl 1 (by decide) f7 (fun _ h9 => h9) rfl dX7_shape_79 ?_
      refine lv_iload_n hx hb dX7_shape_82 rfl (lv_at hl 1 rfl) ?_
      refine lv_iload_n hx hb dX7_shape_83 rfl (lv_at hl 2 rfl) ?_
      obtain ⟨hi8, h⟩ := gi_inv h
      refine va_iast hx hb hK hP hD hS 1 0 rfl rfl hi8 dX7_shape_84 (fun H locs hP hD hS => ?_)
      replace hP : va_P D vwCl (wM k aM (upd Mestimate (v1.toNatClampNeg) v2) Munit Msort Mwidth Mmany Mreading Mvariance Mcovariance Mline Mformulas Mroot Mkind Mone Mother Msigns Mplace MleftOf MrightOf Mtype Msum Msign MsignAt Mproduct Mvalue Mslope Mexponent Mdrawn Mslopes Mfrom Mfactor thrown_6 Mlength Mmodels Mopen Mat Mrows Mx) H := hP
      replace hD : va_D A (wM k aM (upd Mestimate (v1.toNatClampNeg) v2) Munit Msort Mwidth Mmany Mreading Mvariance Mcovariance Mline Mformulas Mroot Mkind Mone Mother Msigns Mplace MleftOf MrightOf Mtype Msum Msign MsignAt Mproduct Mvalue Mslope Mexponent Mdrawn Mslopes Mfrom Mfactor thrown_6 Mlength Mmodels Mopen Mat Mrows Mx) := hD
      refine lv_aload_n hx hb dX7_shape_85 rfl (lv_at hl 0 rfl) ?_
      refine va_get (D := D) (ci := 7) (v := .ref (aM 3)) (C := RX7) (T := TX7) (N := 37) hx hb hts iX7 hown hK hP 0 rfl rfl 3 (by decide) f16 (fun _ h9 => h9) rfl dX7_shape_86 ?_
      refine lv_iload_n hx hb dX7_shape_89 rfl (lv_at hl 1 rfl) ?_
      refine lv_iload_n hx hb dX7_shape_90 rfl (lv_at hl 3 rfl) ?_
      obtain ⟨hi9, h⟩ := gi_inv h
      refine va_iast hx hb hK hP hD hS 3 0 rfl rfl hi9 dX7_shape_91 (fun H locs hP hD hS => ?_)
      replace hP : va_P D vwCl (wM k aM (upd Mestimate (v1.toNatClampNeg) v2) Munit (upd Msort (v1.toNatClampNeg) v3) Mwidth Mmany Mreading Mvariance Mcovariance Mline Mformulas Mroot Mkind Mone Mother Msigns Mplace MleftOf MrightOf Mtype Msum Msign MsignAt Mproduct Mvalue Mslope Mexponent Mdrawn Mslopes Mfrom Mfactor thrown_6 Mlength Mmodels Mopen Mat Mrows Mx) H := hP
      replace hD : va_D A (wM k aM (upd Mestimate (v1.toNatClampNeg) v2) Munit (upd Msort (v1.toNatClampNeg) v3) Mwidth Mmany Mreading Mvariance Mcovariance Mline Mformulas Mroot Mkind Mone Mother Msigns Mplace MleftOf MrightOf Mtype Msum Msign MsignAt Mproduct Mvalue Mslope Mexponent Mdrawn Mslopes Mfrom Mfactor thrown_6 Mlength Mmodels Mopen Mat Mrows Mx) := hD
      refine lv_aload_n hx hb dX7_shape_92 rfl (lv_at hl 0 rfl) ?_
      refine va_get (D := D) (ci := 7) (v := .ref (aM 4)) (C := RX7) (T := TX7) (N := 37) hx hb hts iX7 hown hK hP 0 rfl rfl 4 (by decide) f19 (fun _ h9 => h9) rfl dX7_shape_93 ?_
      refine lv_iload_n hx hb dX7_shape_96 rfl (lv_at hl 1 rfl) ?_
      refine lv_iload hx hb dX7_shape_97 (lv_at hl 4 rfl) ?_
      obtain ⟨hi10, h⟩ := gi_inv h
      refine va_iast hx hb hK hP hD hS 4 0 rfl rfl hi10 dX7_shape_99 (fun H locs hP hD hS => ?_)
      replace hP : va_P D vwCl (wM k aM (upd Mestimate (v1.toNatClampNeg) v2) Munit (upd Msort (v1.toNatClampNeg) v3) (upd Mwidth (v1.toNatClampNeg) v4) Mmany Mreading Mvariance Mcovariance Mline Mformulas Mroot Mkind Mone Mother Msigns Mplace MleftOf MrightOf Mtype Msum Msign MsignAt Mproduct Mvalue Mslope Mexponent Mdrawn Mslopes Mfrom Mfactor thrown_6 Mlength Mmodels Mopen Mat Mrows Mx) H := hP
      replace hD : va_D A (wM k aM (upd Mestimate (v1.toNatClampNeg) v2) Munit (upd Msort (v1.toNatClampNeg) v3) (upd Mwidth (v1.toNatClampNeg) v4) Mmany Mreading Mvariance Mcovariance Mline Mformulas Mroot Mkind Mone Mother Msigns Mplace MleftOf MrightOf Mtype Msum Msign MsignAt Mproduct Mvalue Mslope Mexponent Mdrawn Mslopes Mfrom Mfactor thrown_6 Mlength Mmodels Mopen Mat Mrows Mx) := hD
      refine lv_aload_n hx hb dX7_shape_100 rfl (lv_at hl 0 rfl) ?_
      refine va_get (D := D) (ci := 7) (v := .ref (aM 5)) (C := RX7) (T := TX7) (N := 37) hx hb hts iX7 hown hK hP 0 rfl rfl 5 (by decide) f22 (fun _ h9 => h9) rfl dX7_shape_101 ?_
      refine lv_iload_n hx hb dX7_shape_104 rfl (lv_at hl 1 rfl) ?_
      refine lv_iconst (v := 0) hx hb dX7_shape_105 (by decide) ?_
      obtain ⟨hi11, h⟩ := gi_inv h
      refine va_iast hx hb hK hP hD hS 5 0 rfl rfl hi11 dX7_shape_106 (fun H locs hP hD hS => ?_)
      replace hP : va_P D vwCl (wM k aM (upd Mestimate (v1.toNatClampNeg) v2) Munit (upd Msort (v1.toNatClampNeg) v3) (upd Mwidth (v1.toNatClampNeg) v4) (upd Mmany (v1.toNatClampNeg) 0) Mreading Mvariance Mcovariance Mline Mformulas Mroot Mkind Mone Mother Msigns Mplace MleftOf MrightOf Mtype Msum Msign MsignAt Mproduct Mvalue Mslope Mexponent Mdrawn Mslopes Mfrom Mfactor thrown_6 Mlength Mmodels Mopen Mat Mrows Mx) H := hP
      replace hD : va_D A (wM k aM (upd Mestimate (v1.toNatClampNeg) v2) Munit (upd Msort (v1.toNatClampNeg) v3) (upd Mwidth (v1.toNatClampNeg) v4) (upd Mmany (v1.toNatClampNeg) 0) Mreading Mvariance Mcovariance Mline Mformulas Mroot Mkind Mone Mother Msigns Mplace MleftOf MrightOf Mtype Msum Msign MsignAt Mproduct Mvalue Mslope Mexponent Mdrawn Mslopes Mfrom Mfactor thrown_6 Mlength Mmodels Mopen Mat Mrows Mx) := hD
      refine lv_aload_n hx hb dX7_shape_107 rfl (lv_at hl 0 rfl) ?_
      refine va_get (D := D) (ci := 7) (v := .ref (aM 7)) (C := RX7) (T := TX7) (N := 37) hx hb hts iX7 hown hK hP 0 rfl rfl 7 (by decide) f28 (fun _ h9 => h9) rfl dX7_shape_108 ?_
      refine lv_iload_n hx hb dX7_shape_111 rfl (lv_at hl 1 rfl) ?_
      refine lv_iload_n hx hb dX7_shape_112 rfl (lv_at hl 3 rfl) ?_
      refine lv_if_ne (tgt := 120) hx hb dX7_shape_113 (by decide) (fun c12 => ?_) (fun c12 => ?_)
      · replace h := sf_f c12 h
        refine lv_iload hx hb dX7_shape_120 (lv_at hl 4 rfl) ?_
        refine lv_iload hx hb dX7_shape_122 (lv_at hl 4 rfl) ?_
        refine lv_imul hx hb dX7_shape_124 ?_
        refine lv_iload_n hx hb dX7_shape_125 rfl (lv_at hl 3 rfl) ?_
        refine lv_iconst (v := 1) hx hb dX7_shape_126 (by decide) ?_
        refine lv_icmp_ne (tgt := 134) hx hb dX7_shape_127 (by decide) (fun c13 => ?_) (fun c13 => ?_)
        · replace h := sf_f c13 h
          refine lv_iload_n hx hb dX7_shape_134 rfl (lv_at hl 3 rfl) ?_
          refine lv_iconst (v := 2) hx hb dX7_shape_135 (by decide) ?_
          refine lv_icmp_ne (tgt := 144) hx hb dX7_shape_136 (by decide) (fun c14 => ?_) (fun c14 => ?_)
          · replace h := sf_f c14 h
            refine lv_iconst (v := 2) hx hb dX7_shape_144 (by decide) ?_
            exact BH_145  _ _ _ _ _ _ _ _ _ h _ _ _ hP hD hS (lv_sub hl [0, 1] rfl)
          · replace h := sf_t c14 h
            refine lv_bipush (v := 6) hx hb dX7_shape_139 (by decide) ?_
            refine lv_goto (tgt := 145) hx hb dX7_shape_141 (by decide) ?_
            exact BH_145  _ _ _ _ _ _ _ _ _ h _ _ _ hP hD hS (lv_sub hl [0, 1] rfl)
        · replace h := sf_t c13 h
          refine lv_iconst (v := 3) hx hb dX7_shape_130 (by decide) ?_
          refine lv_goto (tgt := 145) hx hb dX7_shape_131 (by decide) ?_
          exact BH_145  _ _ _ _ _ _ _ _ _ h _ _ _ hP hD hS (lv_sub hl [0, 1] rfl)
      · replace h := sf_t c12 h
        refine lv_iconst (v := 0) hx hb dX7_shape_116 (by decide) ?_
        refine lv_goto (tgt := 146) hx hb dX7_shape_117 (by decide) ?_
        exact BH_146  _ _ _ _ _ _ _ _ h _ _ _ hP hD hS (lv_sub hl [0, 1] rfl)
    · replace h := sf_t c7 h
      refine lv_iconst (v := 0) hx hb dX7_shape_76 (by decide) ?_
      have hP9 := hP
      have hD9 := hD
      have hS9 := hS
      subst hQ
      cases h
      exact W.iret hx hb hr (fun t ht hW => ⟨⟨_, (), rfl, rfl, by rw [ht]; exact hP9, va_K.moved hW.alike hK, hD9⟩, hS9.F ht⟩) hS9.2.2 dX7_shape_77
  have BH_46 : ∀ (s0 : Int32) (Mestimate : Nat → Int32) (Msort : Nat → Int32) (Mwidth : Nat → Int32) (Mmany : Nat → Int32) (Mvariance : Nat → Int32) (Mthrown : Int32), BX7_shape_46 v1 v2 v3 v4 s0 Mestimate Msort Mwidth Mmany Mvariance Mthrown = some (r, RMestimate, RMsort, RMwidth, RMmany, RMvariance, RMthrown) → ∀ (H : Heap) (locs : List Loc) (ls : Array Slot), va_P D vwCl (wM k aM Mestimate Munit Msort Mwidth Mmany Mreading Mvariance Mcovariance Mline Mformulas Mroot Mkind Mone Mother Msigns Mplace MleftOf MrightOf Mtype Msum Msign MsignAt Mproduct Mvalue Mslope Mexponent Mdrawn Mslopes Mfrom Mfactor Mthrown Mlength Mmodels Mopen Mat Mrows Mx) H → va_D A (wM k aM Mestimate Munit Msort Mwidth Mmany Mreading Mvariance Mcovariance Mline Mformulas Mroot Mkind Mone Mother Msigns Mplace MleftOf MrightOf Mtype Msum Msign MsignAt Mproduct Mvalue Mslope Mexponent Mdrawn Mslopes Mfrom Mfactor Mthrown Mlength Mmodels Mopen Mat Mrows Mx) → va_S A s.heap H locs → lv_has ls 6 [(0, .ref (aM 0)), (1, .int v1), (2, .int v2), (3, .int v3), (4, .int v4)] → W p l e rmX7_shape s m args below meth c H locs 0 0 Q (F0 m 46 ls [.int s0]) := by
    intro  s0 Mestimate Msort Mwidth Mmany Mvariance Mthrown h H locs ls hP hD hS hl
    unfold BX7_shape_46 at h
    refine lv_istore (lv' := [(5, .int s0), (0, .ref (aM 0)), (1, .int v1), (2, .int v2), (3, .int v3), (4, .int v4)]) hx hb dX7_shape_46 hl (by decide) rfl (fun ls hl => ?_)
    refine lv_aload_n hx hb dX7_shape_48 rfl (lv_at hl 1 rfl) ?_
    refine lv_iload_n hx hb dX7_shape_49 rfl (lv_at hl 2 rfl) ?_
    obtain ⟨r3, hc3, h⟩ := bnd1_inv h
    have hPc := hP.sub (ws' := ([] : va_W)) [] rfl
    have hDc := hD.sub (ws' := ([] : va_W)) [] rfl rfl
    have hFc := va_free (wc := ([] : va_W)) hD hS hA [] rfl
    refine xc_i (va_runS (As := [.int v1]) (rest := [.ref (aM 0)]) ⟨hx, hb, hml, hown, hts⟩ (met_X7_isInput l D k  H.size v1 r3 hc3) (va_cwS 1 hts gX7_shape_X7_isInput rfl rfl rfl (by decide +kernel) ⟨Nat.le_of_ble_eq_true rfl, Nat.le_of_ble_eq_true rfl⟩) ⟨pw_blind, pw_start hPc hK hDc⟩ rfl rfl hl.1 rfl (lv_room (Nat.le_of_ble_eq_true rfl)) dX7_shape_50 ⟨Nat.zero_le _, Nat.zero_le _⟩) hS hFc (fun H1 locs hP1 hD1 hk1 hS => ?_)
    obtain ⟨hP, hD⟩ := vj (ws' := (wM k aM Mestimate Munit Msort Mwidth Mmany Mreading Mvariance Mcovariance Mline Mformulas Mroot Mkind Mone Mother Msigns Mplace MleftOf MrightOf Mtype Msum Msign MsignAt Mproduct Mvalue Mslope Mexponent Mdrawn Mslopes Mfrom Mfactor Mthrown Mlength Mmodels Mopen Mat Mrows Mx)) (w1 := ([] : va_W)) hP hD [] [0, 1, 2, 3, 4, 5, 6, 7, 8, 9, 10, 11, 12, 13, 14, 15, 16, 17, 18, 19, 20, 21, 22, 23, 24, 25, 26, 27, 28, 29, 30] [0, 1, 2, 3, 4, 5, 6, 7, 8, 9, 10, 11, 12, 13, 14, 15, 16, 17, 18, 19, 20, 21, 22, 23, 24, 25, 26, 27, 28, 29, 30] rfl rfl rfl rfl rfl hk1 hFc hP1 hD1
    clear hP1 hD1 hk1 hFc
    generalize H1 = H at hP hS ⊢
    refine lv_if_ne (tgt := 60) hx hb dX7_shape_53 (by decide) (fun c4 => ?_) (fun c4 => ?_)
    · replace h := sf_f c4 h
      refine lv_iload hx hb dX7_shape_60 (lv_at hl 0 rfl) ?_
      refine lv_if_eq (tgt := 69) hx hb dX7_shape_62 (by decide) (fun c5 => ?_) (fun c5 => ?_)
      · replace h := sf_t c5 h
        refine lv_iconst (v := 2) hx hb dX7_shape_69 (by decide) ?_
        exact BH_70  _ _ _ _ _ _ _ h _ _ _ hP hD hS (lv_sub hl [1, 2, 3, 4, 5] rfl)
      · replace h := sf_f c5 h
        refine lv_iconst (v := 0) hx hb dX7_shape_65 (by decide) ?_
        refine lv_goto (tgt := 70) hx hb dX7_shape_66 (by decide) ?_
        exact BH_70  _ _ _ _ _ _ _ h _ _ _ hP hD hS (lv_sub hl [1, 2, 3, 4, 5] rfl)
    · replace h := sf_t c4 h
      refine lv_iconst (v := 1) hx hb dX7_shape_56 (by decide) ?_
      refine lv_goto (tgt := 70) hx hb dX7_shape_57 (by decide) ?_
      exact BH_70  _ _ _ _ _ _ _ h _ _ _ hP hD hS (lv_sub hl [1, 2, 3, 4, 5] rfl)
  have BH_45 : ∀ (Mestimate : Nat → Int32) (Msort : Nat → Int32) (Mwidth : Nat → Int32) (Mmany : Nat → Int32) (Mvariance : Nat → Int32) (Mthrown : Int32), BX7_shape_45 v1 v2 v3 v4 Mestimate Msort Mwidth Mmany Mvariance Mthrown = some (r, RMestimate, RMsort, RMwidth, RMmany, RMvariance, RMthrown) → ∀ (H : Heap) (locs : List Loc) (ls : Array Slot), va_P D vwCl (wM k aM Mestimate Munit Msort Mwidth Mmany Mreading Mvariance Mcovariance Mline Mformulas Mroot Mkind Mone Mother Msigns Mplace MleftOf MrightOf Mtype Msum Msign MsignAt Mproduct Mvalue Mslope Mexponent Mdrawn Mslopes Mfrom Mfactor Mthrown Mlength Mmodels Mopen Mat Mrows Mx) H → va_D A (wM k aM Mestimate Munit Msort Mwidth Mmany Mreading Mvariance Mcovariance Mline Mformulas Mroot Mkind Mone Mother Msigns Mplace MleftOf MrightOf Mtype Msum Msign MsignAt Mproduct Mvalue Mslope Mexponent Mdrawn Mslopes Mfrom Mfactor Mthrown Mlength Mmodels Mopen Mat Mrows Mx) → va_S A s.heap H locs → lv_has ls 6 [(0, .ref (aM 0)), (1, .int v1), (2, .int v2), (3, .int v3), (4, .int v4)] → W p l e rmX7_shape s m args below meth c H locs 0 0 Q (F0 m 45 ls []) := by
    intro  Mestimate Msort Mwidth Mmany Mvariance Mthrown h H locs ls hP hD hS hl
    unfold BX7_shape_45 at h
    refine lv_iconst (v := 0) hx hb dX7_shape_45 (by decide) ?_
    exact BH_46  _ _ _ _ _ _ _ h _ _ _ hP hD hS (lv_sub hl [0, 1, 2, 3, 4] rfl)
  have BH_35 : ∀ (s0 : Int32) (s1 : Int32) (s2 : Int32) (Mestimate : Nat → Int32) (Msort : Nat → Int32) (Mwidth : Nat → Int32) (Mmany : Nat → Int32) (Mvariance : Nat → Int32) (Mthrown : Int32), BX7_shape_35 v1 v2 v3 v4 s0 s1 s2 Mestimate Msort Mwidth Mmany Mvariance Mthrown = some (r, RMestimate, RMsort, RMwidth, RMmany, RMvariance, RMthrown) → ∀ (H : Heap) (locs : List Loc) (ls : Array Slot), va_P D vwCl (wM k aM Mestimate Munit Msort Mwidth Mmany Mreading Mvariance Mcovariance Mline Mformulas Mroot Mkind Mone Mother Msigns Mplace MleftOf MrightOf Mtype Msum Msign MsignAt Mproduct Mvalue Mslope Mexponent Mdrawn Mslopes Mfrom Mfactor Mthrown Mlength Mmodels Mopen Mat Mrows Mx) H → va_D A (wM k aM Mestimate Munit Msort Mwidth Mmany Mreading Mvariance Mcovariance Mline Mformulas Mroot Mkind Mone Mother Msigns Mplace MleftOf MrightOf Mtype Msum Msign MsignAt Mproduct Mvalue Mslope Mexponent Mdrawn Mslopes Mfrom Mfactor Mthrown Mlength Mmodels Mopen Mat Mrows Mx) → va_S A s.heap H locs → lv_has ls 6 [(0, .ref (aM 0)), (1, .int v1), (2, .int v2), (3, .int v3), (4, .int v4)] → W p l e rmX7_shape s m args below meth c H locs 0 0 Q (F0 m 35 ls [.int s2, .int s1, .int s0]) := by
    intro  s0 s1 s2 Mestimate Msort Mwidth Mmany Mvariance Mthrown h H locs ls hP hD hS hl
    unfold BX7_shape_35 at h
    obtain ⟨r21, hc21, h⟩ := bnd1_inv h
    have hPc := hP.sub (ws' := ([] : va_W)) [] rfl
    have hDc := hD.sub (ws' := ([] : va_W)) [] rfl rfl
    have hFc := va_free (wc := ([] : va_W)) hD hS hA [] rfl
    refine xc_i (va_runS (As := [.int s0, .int s1, .int s2]) (rest := []) ⟨hx, hb, hml, hown, hts⟩ (met_X7_isIn l D k  H.size s0 s1 s2 r21 hc21) (va_cwS 3 hts gX7_shape_X7_isIn rfl rfl rfl (by decide +kernel) ⟨Nat.le_of_ble_eq_true rfl, Nat.le_of_ble_eq_true rfl⟩) ⟨pw_blind, pw_start hPc hK hDc⟩ rfl rfl hl.1 rfl (lv_room (Nat.le_of_ble_eq_true rfl)) dX7_shape_35 ⟨Nat.zero_le _, Nat.zero_le _⟩) hS hFc (fun H1 locs hP1 hD1 hk1 hS => ?_)
    obtain ⟨hP, hD⟩ := vj (ws' := (wM k aM Mestimate Munit Msort Mwidth Mmany Mreading Mvariance Mcovariance Mline Mformulas Mroot Mkind Mone Mother Msigns Mplace MleftOf MrightOf Mtype Msum Msign MsignAt Mproduct Mvalue Mslope Mexponent Mdrawn Mslopes Mfrom Mfactor Mthrown Mlength Mmodels Mopen Mat Mrows Mx)) (w1 := ([] : va_W)) hP hD [] [0, 1, 2, 3, 4, 5, 6, 7, 8, 9, 10, 11, 12, 13, 14, 15, 16, 17, 18, 19, 20, 21, 22, 23, 24, 25, 26, 27, 28, 29, 30] [0, 1, 2, 3, 4, 5, 6, 7, 8, 9, 10, 11, 12, 13, 14, 15, 16, 17, 18, 19, 20, 21, 22, 23, 24, 25, 26, 27, 28, 29, 30] rfl rfl rfl rfl rfl hk1 hFc hP1 hD1
    clear hP1 hD1 hk1 hFc
    generalize H1 = H at hP hS ⊢
    refine lv_if_eq (tgt := 45) hx hb dX7_shape_38 (by decide) (fun c22 => ?_) (fun c22 => ?_)
    · replace h := sf_t c22 h
      exact BH_45  _ _ _ _ _ _ h _ _ _ hP hD hS (lv_sub hl [0, 1, 2, 3, 4] rfl)
    · replace h := sf_f c22 h
      refine lv_iconst (v := 1) hx hb dX7_shape_41 (by decide) ?_
      refine lv_goto (tgt := 46) hx hb dX7_shape_42 (by decide) ?_
      exact BH_46  _ _ _ _ _ _ _ h _ _ _ hP hD hS (lv_sub hl [0, 1, 2, 3, 4] rfl)
  suffices main : ∀ (H : Heap) (locs : List Loc) (ls : Array Slot), va_P D vwCl (wM k aM Mestimate Munit Msort Mwidth Mmany Mreading Mvariance Mcovariance Mline Mformulas Mroot Mkind Mone Mother Msigns Mplace MleftOf MrightOf Mtype Msum Msign MsignAt Mproduct Mvalue Mslope Mexponent Mdrawn Mslopes Mfrom Mfactor Mthrown Mlength Mmodels Mopen Mat Mrows Mx) H → va_D A (wM k aM Mestimate Munit Msort Mwidth Mmany Mreading Mvariance Mcovariance Mline Mformulas Mroot Mkind Mone Mother Msigns Mplace MleftOf MrightOf Mtype Msum Msign MsignAt Mproduct Mvalue Mslope Mexponent Mdrawn Mslopes Mfrom Mfactor Mthrown Mlength Mmodels Mopen Mat Mrows Mx) → va_S A s.heap H locs → lv_has ls 6 [(0, .ref (aM 0)), (1, .int v1), (2, .int v2), (3, .int v3), (4, .int v4)] → W p l e rmX7_shape s m args below meth c H locs 0 0 Q (F0 m 0 ls []) from main _ _ _ hP hD hS hl
  clear hP hD hS hl ls hAe
  intro H locs ls hP hD hS hl
  refine lv_iload_n hx hb dX7_shape_0 rfl (lv_at hl 2 rfl) ?_
  refine lv_sipush (v := -999) hx hb dX7_shape_1 (by decide) ?_
  refine lv_sipush (v := 999) hx hb dX7_shape_4 (by decide) ?_
  obtain ⟨r1, hc1, h⟩ := bnd1_inv h
  have hPc := hP.sub (ws' := ([] : va_W)) [] rfl
  have hDc := hD.sub (ws' := ([] : va_W)) [] rfl rfl
  have hFc := va_free (wc := ([] : va_W)) hD hS hA [] rfl
  refine xc_i (va_runS (As := [.int v2, .int ((-999)), .int 999]) (rest := []) ⟨hx, hb, hml, hown, hts⟩ (met_X7_isIn l D k  H.size v2 ((-999)) 999 r1 hc1) (va_cwS 3 hts gX7_shape_X7_isIn rfl rfl rfl (by decide +kernel) ⟨Nat.le_of_ble_eq_true rfl, Nat.le_of_ble_eq_true rfl⟩) ⟨pw_blind, pw_start hPc hK hDc⟩ rfl rfl hl.1 rfl (lv_room (Nat.le_of_ble_eq_true rfl)) dX7_shape_7 ⟨Nat.zero_le _, Nat.zero_le _⟩) hS hFc (fun H1 locs hP1 hD1 hk1 hS => ?_)
  obtain ⟨hP, hD⟩ := vj (ws' := (wM k aM Mestimate Munit Msort Mwidth Mmany Mreading Mvariance Mcovariance Mline Mformulas Mroot Mkind Mone Mother Msigns Mplace MleftOf MrightOf Mtype Msum Msign MsignAt Mproduct Mvalue Mslope Mexponent Mdrawn Mslopes Mfrom Mfactor Mthrown Mlength Mmodels Mopen Mat Mrows Mx)) (w1 := ([] : va_W)) hP hD [] [0, 1, 2, 3, 4, 5, 6, 7, 8, 9, 10, 11, 12, 13, 14, 15, 16, 17, 18, 19, 20, 21, 22, 23, 24, 25, 26, 27, 28, 29, 30] [0, 1, 2, 3, 4, 5, 6, 7, 8, 9, 10, 11, 12, 13, 14, 15, 16, 17, 18, 19, 20, 21, 22, 23, 24, 25, 26, 27, 28, 29, 30] rfl rfl rfl rfl rfl hk1 hFc hP1 hD1
  clear hP1 hD1 hk1 hFc
  generalize H1 = H at hP hS ⊢
  refine lv_if_eq (tgt := 45) hx hb dX7_shape_10 (by decide) (fun c2 => ?_) (fun c2 => ?_)
  · replace h := sf_t c2 h
    exact BH_45  _ _ _ _ _ _ h _ _ _ hP hD hS (lv_sub hl [0, 1, 2, 3, 4] rfl)
  · replace h := sf_f c2 h
    refine lv_iload_n hx hb dX7_shape_13 rfl (lv_at hl 3 rfl) ?_
    refine lv_iconst (v := 0) hx hb dX7_shape_14 (by decide) ?_
    refine lv_iconst (v := 3) hx hb dX7_shape_15 (by decide) ?_
    obtain ⟨r18, hc18, h⟩ := bnd1_inv h
    have hPc := hP.sub (ws' := ([] : va_W)) [] rfl
    have hDc := hD.sub (ws' := ([] : va_W)) [] rfl rfl
    have hFc := va_free (wc := ([] : va_W)) hD hS hA [] rfl
    refine xc_i (va_runS (As := [.int v3, .int 0, .int 3]) (rest := []) ⟨hx, hb, hml, hown, hts⟩ (met_X7_isIn l D k  H.size v3 0 3 r18 hc18) (va_cwS 3 hts gX7_shape_X7_isIn rfl rfl rfl (by decide +kernel) ⟨Nat.le_of_ble_eq_true rfl, Nat.le_of_ble_eq_true rfl⟩) ⟨pw_blind, pw_start hPc hK hDc⟩ rfl rfl hl.1 rfl (lv_room (Nat.le_of_ble_eq_true rfl)) dX7_shape_16 ⟨Nat.zero_le _, Nat.zero_le _⟩) hS hFc (fun H1 locs hP1 hD1 hk1 hS => ?_)
    obtain ⟨hP, hD⟩ := vj (ws' := (wM k aM Mestimate Munit Msort Mwidth Mmany Mreading Mvariance Mcovariance Mline Mformulas Mroot Mkind Mone Mother Msigns Mplace MleftOf MrightOf Mtype Msum Msign MsignAt Mproduct Mvalue Mslope Mexponent Mdrawn Mslopes Mfrom Mfactor Mthrown Mlength Mmodels Mopen Mat Mrows Mx)) (w1 := ([] : va_W)) hP hD [] [0, 1, 2, 3, 4, 5, 6, 7, 8, 9, 10, 11, 12, 13, 14, 15, 16, 17, 18, 19, 20, 21, 22, 23, 24, 25, 26, 27, 28, 29, 30] [0, 1, 2, 3, 4, 5, 6, 7, 8, 9, 10, 11, 12, 13, 14, 15, 16, 17, 18, 19, 20, 21, 22, 23, 24, 25, 26, 27, 28, 29, 30] rfl rfl rfl rfl rfl hk1 hFc hP1 hD1
    clear hP1 hD1 hk1 hFc
    generalize H1 = H at hP hS ⊢
    refine lv_if_eq (tgt := 45) hx hb dX7_shape_19 (by decide) (fun c19 => ?_) (fun c19 => ?_)
    · replace h := sf_t c19 h
      exact BH_45  _ _ _ _ _ _ h _ _ _ hP hD hS (lv_sub hl [0, 1, 2, 3, 4] rfl)
    · replace h := sf_f c19 h
      refine lv_iload hx hb dX7_shape_22 (lv_at hl 4 rfl) ?_
      refine lv_iconst (v := 0) hx hb dX7_shape_24 (by decide) ?_
      refine lv_iload_n hx hb dX7_shape_25 rfl (lv_at hl 3 rfl) ?_
      refine lv_if_ne (tgt := 33) hx hb dX7_shape_26 (by decide) (fun c20 => ?_) (fun c20 => ?_)
      · replace h := sf_f c20 h
        refine lv_bipush (v := 99) hx hb dX7_shape_33 (by decide) ?_
        exact BH_35  _ _ _ _ _ _ _ _ _ h _ _ _ hP hD hS (lv_sub hl [0, 1, 2, 3, 4] rfl)
      · replace h := sf_t c20 h
        refine lv_iconst (v := 0) hx hb dX7_shape_29 (by decide) ?_
        refine lv_goto (tgt := 35) hx hb dX7_shape_30 (by decide) ?_
        exact BH_35  _ _ _ _ _ _ _ _ _ h _ _ _ hP hD hS (lv_sub hl [0, 1, 2, 3, 4] rfl)
def fX7_floor (v0 : Int32) (v1 : Int32) : Option (Int32) := (if v0 < 0 then gz v1 (some (-(((v1 - 1) - v0) / v1))) else gz v1 (some (v0 / v1)))
abbrev rmX7_floor : Room := { frames := 0, cells := 0, slots := 0, locals := 0 }
set_option maxHeartbeats 4000000 in
set_option maxRecDepth 100000 in
theorem met_X7_floor (l : Launch) (D : va_G) (k : Nat → ClassId)   (sz : Nat)  (v0 : Int32) (v1 : Int32) (r : Int32) (h : fX7_floor v0 v1 = some r) : Met l yX7_floor wsX7_floor rmX7_floor (va_Pc [.int v0, .int v1] (PreW D k ([] : va_W) sz)) (va_Qi (fun r9 (_ : Unit) => r9 = r) (fun _ t => PostW D k (va_A ([] : va_W) sz) ([] : va_W) t) (va_A ([] : va_W) sz)) 0 0 (va_A ([] : va_W) sz) := by
  refine Met.ofW (cc := cX7_floor) (maxL := 2) (ret := (some .int)) (by decide) rfl ?_
  intro p e s m args below meth c s₁ B hml hv
  obtain ⟨hav, hsz, hP, hK, hD0⟩ := hv
  have hx := B.exec
  have hb := B.bytes
  have hr := B.returns
  have hts := atoms_spec (ws := wsX7_floor) B.pre
  have hown : s.vm.findClass RX7 = some m.cls := findClass_of_methodNamed B.named
  have hlocks := B.notSynchronized
  subst hsz
  have hD := hD0.self (sz := s.heap.size)
  clear hD0
  generalize hAe : va_A ([] : va_W) s.heap.size = A at hD ⊢
  have hA : ∀ q : Nat, s.heap.size ≤ q → A q := fun q h => by rw [← hAe]; exact Or.inr h
  have hS : va_S A s.heap s.heap [] := va_S.rf
  have hl := lv_entry ([.int v0, .int v1]) (n := 2) (Nat.le_of_ble_eq_true rfl)
  rw [show entryFrame m args 2 = entryFrame m ([.int v0, .int v1] : List Value).toArray 2 from by rw [hav], lg_entry_eq]
  generalize (lg_sl ([.int v0, .int v1]) ++ List.replicate (2 - (lg_sl ([.int v0, .int v1])).length) Slot.unset).toArray = ls at hl ⊢
  replace hl : lv_has ls 2 [(0, .int v0), (1, .int v1)] := hl
  refine w_q (fun Q hQ => ?_)
  unfold fX7_floor at h
  show W p l e rmX7_floor s m args below meth c s.heap [] 0 0 Q (F0 m 0 ls [])
  suffices main : ∀ (H : Heap) (locs : List Loc) (ls : Array Slot), va_P D vwCl ([] : va_W) H → va_D A ([] : va_W) → va_S A s.heap H locs → lv_has ls 2 [(0, .int v0), (1, .int v1)] → W p l e rmX7_floor s m args below meth c H locs 0 0 Q (F0 m 0 ls []) from main _ _ _ hP hD hS hl
  clear hP hD hS hl ls hAe
  intro H locs ls hP hD hS hl
  refine lv_iload_n hx hb dX7_floor_0 rfl (lv_at hl 0 rfl) ?_
  refine lv_if_lt (tgt := 10) hx hb dX7_floor_1 (by decide) (fun c1 => ?_) (fun c1 => ?_)
  · replace h := sf_t c1 h
    refine lv_iload_n hx hb dX7_floor_10 rfl (lv_at hl 1 rfl) ?_
    refine lv_iconst (v := 1) hx hb dX7_floor_11 (by decide) ?_
    refine lv_isub hx hb dX7_floor_12 ?_
    refine lv_iload_n hx hb dX7_floor_13 rfl (lv_at hl 0 rfl) ?_
    refine lv_isub hx hb dX7_floor_14 ?_
    refine lv_iload_n hx hb dX7_floor_15 rfl (lv_at hl 1 rfl) ?_
    obtain ⟨hz2, h⟩ := gz_inv h
    refine lv_idiv hx hb dX7_floor_16 hz2 ?_
    refine lv_ineg hx hb dX7_floor_17 ?_
    have hP9 := hP
    have hD9 := hD
    have hS9 := hS
    subst hQ
    cases h
    exact W.iret hx hb hr (fun t ht hW => ⟨⟨_, (), rfl, rfl, by rw [ht]; exact hP9, va_K.moved hW.alike hK, hD9⟩, hS9.F ht⟩) hS9.2.2 dX7_floor_18
  · replace h := sf_f c1 h
    refine lv_iload_n hx hb dX7_floor_4 rfl (lv_at hl 0 rfl) ?_
    refine lv_iload_n hx hb dX7_floor_5 rfl (lv_at hl 1 rfl) ?_
    obtain ⟨hz3, h⟩ := gz_inv h
    refine lv_idiv hx hb dX7_floor_6 hz3 ?_
    refine lv_goto (tgt := 18) hx hb dX7_floor_7 (by decide) ?_
    have hP9 := hP
    have hD9 := hD
    have hS9 := hS
    subst hQ
    cases h
    exact W.iret hx hb hr (fun t ht hW => ⟨⟨_, (), rfl, rfl, by rw [ht]; exact hP9, va_K.moved hW.alike hK, hD9⟩, hS9.F ht⟩) hS9.2.2 dX7_floor_18
def LX7_read_113 (v1 : Int32) (v2 : Int32) (E157 : Int32 → Int32 → Int32 → (Nat → Int32) → (Nat → Int32) → (Nat → Int32) → (Nat → Int32) → (Nat → Int32) → (Nat → Int32) → Int32 → Option (Int32 × (Nat → Int32) × (Nat → Int32) × (Nat → Int32) × (Nat → Int32) × (Nat → Int32) × (Nat → Int32) × Int32)) : Nat → Int32 → Int32 → Int32 → Int32 → (Nat → Int32) → (Nat → Int32) → (Nat → Int32) → (Nat → Int32) → (Nat → Int32) → (Nat → Int32) → Int32 → Option (Int32 × (Nat → Int32) × (Nat → Int32) × (Nat → Int32) × (Nat → Int32) × (Nat → Int32) × (Nat → Int32) × Int32)
  | 0, _, _, _, _, _, _, _, _, _, _, _ => none
  | fuel + 1, v4, v5, v6, v7, Mestimate, Msort, Mwidth, Mmany, Mreading, Mvariance, Mthrown => (if v4 ≤ v7 then E157 v4 v5 v6 Mestimate Msort Mwidth Mmany Mreading Mvariance Mthrown else gi ((8 * v1) + v7) 48 (LX7_read_113 v1 v2 E157 fuel v4 (v5 + (Mreading ((8 * v1) + v7).toNatClampNeg)) (v6 + ((Mreading ((8 * v1) + v7).toNatClampNeg) * (Mreading ((8 * v1) + v7).toNatClampNeg))) (v7 + 1) Mestimate Msort Mwidth Mmany Mreading Mvariance Mthrown))
def BX7_read_207 (v1 : Int32) (v2 : Int32)  (s1 : Int32) (s2 : Int32) (Mestimate : Nat → Int32) (Msort : Nat → Int32) (Mwidth : Nat → Int32) (Mmany : Nat → Int32) (Mreading : Nat → Int32) (Mvariance : Nat → Int32) (Mthrown : Int32) : Option (Int32 × (Nat → Int32) × (Nat → Int32) × (Nat → Int32) × (Nat → Int32) × (Nat → Int32) × (Nat → Int32) × Int32) := gi s1 6 (gi v1 6 (some ((upd Mvariance (s1.toNatClampNeg) s2) v1.toNatClampNeg, Mestimate, Msort, Mwidth, Mmany, Mreading, upd Mvariance (s1.toNatClampNeg) s2, Mthrown)))
def BX7_read_47 (v1 : Int32) (v2 : Int32)  (s1 : Int32) (Mestimate : Nat → Int32) (Msort : Nat → Int32) (Mwidth : Nat → Int32) (Mmany : Nat → Int32) (Mreading : Nat → Int32) (Mvariance : Nat → Int32) (Mthrown : Int32) : Option (Int32 × (Nat → Int32) × (Nat → Int32) × (Nat → Int32) × (Nat → Int32) × (Nat → Int32) × (Nat → Int32) × Int32) := bnd2 (fX7_holds s1 Mthrown) (fun r7 thrown_7 => (if r7 = 0 then some (0, Mestimate, Msort, Mwidth, Mmany, Mreading, Mvariance, thrown_7) else gi v1 6 (gi v1 6 (gi v1 6 (gi ((8 * v1) + (Mmany v1.toNatClampNeg)) 48 (gi v1 6 (gi v1 6 (gi v1 6 (LX7_read_113 v1 v2 (fun (v4 : Int32) (v5 : Int32) (v6 : Int32) (Mestimate : Nat → Int32) (Msort : Nat → Int32) (Mwidth : Nat → Int32) (Mmany : Nat → Int32) (Mreading : Nat → Int32) (Mvariance : Nat → Int32) (Mthrown : Int32) => bnd1 (fX7_floor v5 v4) (fun r18 => gi v1 6 ((if v4 = 1 then BX7_read_207 v1 v2 v1 0 (upd Mestimate (v1.toNatClampNeg) r18) Msort Mwidth Mmany Mreading Mvariance Mthrown else gz ((v4 * v4) * (v4 - 1)) (BX7_read_207 v1 v2 v1 (((v4 * v6) - (v5 * v5)) / ((v4 * v4) * (v4 - 1))) (upd Mestimate (v1.toNatClampNeg) r18) Msort Mwidth Mmany Mreading Mvariance Mthrown))))) 1000 ((upd Mmany (v1.toNatClampNeg) ((Mmany v1.toNatClampNeg) + 1)) v1.toNatClampNeg) 0 0 0 Mestimate (upd Msort (v1.toNatClampNeg) 4) (upd Mwidth (v1.toNatClampNeg) 0) (upd Mmany (v1.toNatClampNeg) ((Mmany v1.toNatClampNeg) + 1)) (upd Mreading (((8 * v1) + (Mmany v1.toNatClampNeg)).toNatClampNeg) v2) Mvariance thrown_7)))))))))
def fX7_read (v1 : Int32) (v2 : Int32) (Mestimate : Nat → Int32) (Msort : Nat → Int32) (Mwidth : Nat → Int32) (Mmany : Nat → Int32) (Mreading : Nat → Int32) (Mvariance : Nat → Int32) (Mthrown : Int32) : Option (Int32 × (Nat → Int32) × (Nat → Int32) × (Nat → Int32) × (Nat → Int32) × (Nat → Int32) × (Nat → Int32) × Int32) := bnd1 (fX7_isInput v1) (fun r1 => (if r1 = 0 then BX7_read_47 v1 v2 1 Mestimate Msort Mwidth Mmany Mreading Mvariance Mthrown else bnd1 (fX7_isIn v2 ((-999)) 999) (fun r3 => (if r3 = 0 then BX7_read_47 v1 v2 2 Mestimate Msort Mwidth Mmany Mreading Mvariance Mthrown else gi v1 6 ((if (Mmany v1.toNatClampNeg) = 8 then BX7_read_47 v1 v2 3 Mestimate Msort Mwidth Mmany Mreading Mvariance Mthrown else BX7_read_47 v1 v2 0 Mestimate Msort Mwidth Mmany Mreading Mvariance Mthrown))))))
abbrev rmX7_read : Room := { frames := 2, cells := 0, slots := 0, locals := 42 }
set_option maxHeartbeats 4000000 in
set_option maxRecDepth 100000 in
theorem met_X7_read (l : Launch) (D : va_G) (k : Nat → ClassId)  (aM : Nat → Nat) (sz : Nat) (Mestimate : Nat → Int32) (Munit : Nat → Int32) (Msort : Nat → Int32) (Mwidth : Nat → Int32) (Mmany : Nat → Int32) (Mreading : Nat → Int32) (Mvariance : Nat → Int32) (Mcovariance : Nat → Int32) (Mline : Nat → Int32) (Mformulas : Nat → Int32) (Mroot : Nat → Int32) (Mkind : Nat → Int32) (Mone : Nat → Int32) (Mother : Nat → Int32) (Msigns : Nat → Int32) (Mplace : Nat → Int32) (MleftOf : Nat → Int32) (MrightOf : Nat → Int32) (Mtype : Nat → Int32) (Msum : Nat → Int32) (Msign : Nat → Int32) (MsignAt : Nat → Int32) (Mproduct : Nat → Int32) (Mvalue : Nat → Int64) (Mslope : Nat → Int64) (Mexponent : Nat → Int32) (Mdrawn : Nat → Int32) (Mslopes : Nat → Int64) (Mfrom : Nat → Int32) (Mfactor : Nat → Int32) (Mthrown : Int32) (Mlength : Int32) (Mmodels : Int32) (Mopen : Int32) (Mat : Int32) (Mrows : Int32) (Mx : Int32) (v1 : Int32) (v2 : Int32) (r : Int32) (RMestimate : Nat → Int32) (RMsort : Nat → Int32) (RMwidth : Nat → Int32) (RMmany : Nat → Int32) (RMreading : Nat → Int32) (RMvariance : Nat → Int32) (RMthrown : Int32) (h : fX7_read v1 v2 Mestimate Msort Mwidth Mmany Mreading Mvariance Mthrown = some (r, RMestimate, RMsort, RMwidth, RMmany, RMreading, RMvariance, RMthrown)) : Met l yX7_read wsX7_read rmX7_read (va_Pc [.ref (aM 0), .int v1, .int v2] (PreW D k (wM k aM Mestimate Munit Msort Mwidth Mmany Mreading Mvariance Mcovariance Mline Mformulas Mroot Mkind Mone Mother Msigns Mplace MleftOf MrightOf Mtype Msum Msign MsignAt Mproduct Mvalue Mslope Mexponent Mdrawn Mslopes Mfrom Mfactor Mthrown Mlength Mmodels Mopen Mat Mrows Mx) sz)) (va_Qi (fun r9 (_ : Unit) => r9 = r) (fun _ t => PostW D k (va_A (wM k aM Mestimate Munit Msort Mwidth Mmany Mreading Mvariance Mcovariance Mline Mformulas Mroot Mkind Mone Mother Msigns Mplace MleftOf MrightOf Mtype Msum Msign MsignAt Mproduct Mvalue Mslope Mexponent Mdrawn Mslopes Mfrom Mfactor Mthrown Mlength Mmodels Mopen Mat Mrows Mx) sz) (wM k aM RMestimate Munit RMsort RMwidth RMmany RMreading RMvariance Mcovariance Mline Mformulas Mroot Mkind Mone Mother Msigns Mplace MleftOf MrightOf Mtype Msum Msign MsignAt Mproduct Mvalue Mslope Mexponent Mdrawn Mslopes Mfrom Mfactor RMthrown Mlength Mmodels Mopen Mat Mrows Mx) t) (va_A (wM k aM Mestimate Munit Msort Mwidth Mmany Mreading Mvariance Mcovariance Mline Mformulas Mroot Mkind Mone Mother Msigns Mplace MleftOf MrightOf Mtype Msum Msign MsignAt Mproduct Mvalue Mslope Mexponent Mdrawn Mslopes Mfrom Mfactor Mthrown Mlength Mmodels Mopen Mat Mrows Mx) sz)) 0 0 (va_A (wM k aM Mestimate Munit Msort Mwidth Mmany Mreading Mvariance Mcovariance Mline Mformulas Mroot Mkind Mone Mother Msigns Mplace MleftOf MrightOf Mtype Msum Msign MsignAt Mproduct Mvalue Mslope Mexponent Mdrawn Mslopes Mfrom Mfactor Mthrown Mlength Mmodels Mopen Mat Mrows Mx) sz) := by
  refine Met.ofW (cc := cX7_read) (maxL := 9) (ret := (some .int)) (by decide) rfl ?_
  intro p e s m args below meth c s₁ B hml hv
  obtain ⟨hav, hsz, hP, hK, hD0⟩ := hv
  have hx := B.exec
  have hb := B.bytes
  have hr := B.returns
  have hts := atoms_spec (ws := wsX7_read) B.pre
  have hown : s.vm.findClass RX7 = some m.cls := findClass_of_methodNamed B.named
  have hlocks := B.notSynchronized
  subst hsz
  have hD := hD0.self (sz := s.heap.size)
  clear hD0
  generalize hAe : va_A (wM k aM Mestimate Munit Msort Mwidth Mmany Mreading Mvariance Mcovariance Mline Mformulas Mroot Mkind Mone Mother Msigns Mplace MleftOf MrightOf Mtype Msum Msign MsignAt Mproduct Mvalue Mslope Mexponent Mdrawn Mslopes Mfrom Mfactor Mthrown Mlength Mmodels Mopen Mat Mrows Mx) s.heap.size = A at hD ⊢
  have hA : ∀ q : Nat, s.heap.size ≤ q → A q := fun q h => by rw [← hAe]; exact Or.inr h
  have hS : va_S A s.heap s.heap [] := va_S.rf
  have hl := lv_entry ([.ref (aM 0), .int v1, .int v2]) (n := 9) (Nat.le_of_ble_eq_true rfl)
  rw [show entryFrame m args 9 = entryFrame m ([.ref (aM 0), .int v1, .int v2] : List Value).toArray 9 from by rw [hav], lg_entry_eq]
  generalize (lg_sl ([.ref (aM 0), .int v1, .int v2]) ++ List.replicate (9 - (lg_sl ([.ref (aM 0), .int v1, .int v2])).length) Slot.unset).toArray = ls at hl ⊢
  replace hl : lv_has ls 9 [(0, .ref (aM 0)), (1, .int v1), (2, .int v2)] := hl
  have f7 := hts (.fieldLink RX7 7 "UncertainBookModel" "estimate" "[I") (by decide +kernel)
  have f16 := hts (.fieldLink RX7 16 "UncertainBookModel" "sort" "[I") (by decide +kernel)
  have f19 := hts (.fieldLink RX7 19 "UncertainBookModel" "width" "[I") (by decide +kernel)
  have f22 := hts (.fieldLink RX7 22 "UncertainBookModel" "many" "[I") (by decide +kernel)
  have f25 := hts (.fieldLink RX7 25 "UncertainBookModel" "reading" "[I") (by decide +kernel)
  have f28 := hts (.fieldLink RX7 28 "UncertainBookModel" "variance" "[I") (by decide +kernel)
  have iX7 : ∀ w ∈ u_ws RX7 TX7 37, w ∈ wsX7_read := by decide +kernel
  refine w_q (fun Q hQ => ?_)
  unfold fX7_read at h
  show W p l e rmX7_read s m args below meth c s.heap [] 0 0 Q (F0 m 0 ls [])
  have LH_113 : ∀ (E157 : Int32 → Int32 → Int32 → (Nat → Int32) → (Nat → Int32) → (Nat → Int32) → (Nat → Int32) → (Nat → Int32) → (Nat → Int32) → Int32 → Option (Int32 × (Nat → Int32) × (Nat → Int32) × (Nat → Int32) × (Nat → Int32) × (Nat → Int32) × (Nat → Int32) × Int32)) (hE157 : ∀ (v4 : Int32) (v5 : Int32) (v6 : Int32) (Mestimate : Nat → Int32) (Msort : Nat → Int32) (Mwidth : Nat → Int32) (Mmany : Nat → Int32) (Mreading : Nat → Int32) (Mvariance : Nat → Int32) (Mthrown : Int32), E157 v4 v5 v6 Mestimate Msort Mwidth Mmany Mreading Mvariance Mthrown = some (r, RMestimate, RMsort, RMwidth, RMmany, RMreading, RMvariance, RMthrown) → ∀ (H : Heap) (locs : List Loc) (ls : Array Slot), va_P D vwCl (wM k aM Mestimate Munit Msort Mwidth Mmany Mreading Mvariance Mcovariance Mline Mformulas Mroot Mkind Mone Mother Msigns Mplace MleftOf MrightOf Mtype Msum Msign MsignAt Mproduct Mvalue Mslope Mexponent Mdrawn Mslopes Mfrom Mfactor Mthrown Mlength Mmodels Mopen Mat Mrows Mx) H → va_D A (wM k aM Mestimate Munit Msort Mwidth Mmany Mreading Mvariance Mcovariance Mline Mformulas Mroot Mkind Mone Mother Msigns Mplace MleftOf MrightOf Mtype Msum Msign MsignAt Mproduct Mvalue Mslope Mexponent Mdrawn Mslopes Mfrom Mfactor Mthrown Mlength Mmodels Mopen Mat Mrows Mx) → va_S A s.heap H locs → lv_has ls 9 [(0, .ref (aM 0)), (1, .int v1), (4, .int v4), (5, .int v5), (6, .int v6)] → W p l e rmX7_read s m args below meth c H locs 0 0 Q (F0 m 157 ls [])) (n : Nat) (v4 : Int32) (v5 : Int32) (v6 : Int32) (v7 : Int32) (Mestimate : Nat → Int32) (Msort : Nat → Int32) (Mwidth : Nat → Int32) (Mmany : Nat → Int32) (Mreading : Nat → Int32) (Mvariance : Nat → Int32) (Mthrown : Int32), LX7_read_113 v1 v2 E157 n v4 v5 v6 v7 Mestimate Msort Mwidth Mmany Mreading Mvariance Mthrown = some (r, RMestimate, RMsort, RMwidth, RMmany, RMreading, RMvariance, RMthrown) → ∀ (H : Heap) (locs : List Loc) (ls : Array Slot), va_P D vwCl (wM k aM Mestimate Munit Msort Mwidth Mmany Mreading Mvariance Mcovariance Mline Mformulas Mroot Mkind Mone Mother Msigns Mplace MleftOf MrightOf Mtype Msum Msign MsignAt Mproduct Mvalue Mslope Mexponent Mdrawn Mslopes Mfrom Mfactor Mthrown Mlength Mmodels Mopen Mat Mrows Mx) H → va_D A (wM k aM Mestimate Munit Msort Mwidth Mmany Mreading Mvariance Mcovariance Mline Mformulas Mroot Mkind Mone Mother Msigns Mplace MleftOf MrightOf Mtype Msum Msign MsignAt Mproduct Mvalue Mslope Mexponent Mdrawn Mslopes Mfrom Mfactor Mthrown Mlength Mmodels Mopen Mat Mrows Mx) → va_S A s.heap H locs → lv_has ls 9 [(0, .ref (aM 0)), (1, .int v1), (4, .int v4), (5, .int v5), (6, .int v6), (7, .int v7)] → W p l e rmX7_read s m args below meth c H locs 0 0 Q (F0 m 113 ls []) := by
    intro E157 hE157 n
    induction n with
    | zero => intro v4 v5 v6 v7 Mestimate Msort Mwidth Mmany Mreading Mvariance Mthrown h; simp [LX7_read_113] at h
    | succ n ih =>
    intro v4 v5 v6 v7 Mestimate Msort Mwidth Mmany Mreading Mvariance Mthrown h H locs ls hP hD hS hl
    rw [LX7_read_113] at h
    refine lv_iload hx hb dX7_read_113 (lv_at hl 5 rfl) ?_
    refine lv_iload hx hb dX7_read_115 (lv_at hl 2 rfl) ?_
    refine lv_icmp_ge (tgt := 157) hx hb dX7_read_117 (by decide) (fun c16 => ?_) (fun c16 => ?_)
    · replace h := sf_t c16 h
      exact hE157 _ _ _ _ _ _ _ _ _ _ h _ _ _ hP hD hS (lv_sub hl [0, 1, 2, 3, 4] rfl)
    · replace h := sf_f c16 h
      refine lv_aload_n hx hb dX7_read_120 rfl (lv_at hl 0 rfl) ?_
      refine va_get (D := D) (ci := 7) (v := .ref (aM 6)) (C := RX7) (T := TX7) (N := 37) hx hb hts iX7 hown hK hP 0 rfl rfl 6 (by decide) f25 (fun _ h9 => h9) rfl dX7_read_121 ?_
      refine lv_bipush (v := 8) hx hb dX7_read_124 (by decide) ?_
      refine lv_iload_n hx hb dX7_read_126 rfl (lv_at hl 1 rfl) ?_
      refine lv_imul hx hb dX7_read_127 ?_
      refine lv_iload hx hb dX7_read_128 (lv_at hl 5 rfl) ?_
      refine lv_iadd hx hb dX7_read_130 ?_
      obtain ⟨hi17, h⟩ := gi_inv h
      refine va_iald hx hb hK hP 6 0 rfl rfl hi17 dX7_read_131 ?_
      refine lv_istore (lv' := [(8, .int (Mreading ((8 * v1) + v7).toNatClampNeg)), (0, .ref (aM 0)), (1, .int v1), (4, .int v4), (5, .int v5), (6, .int v6), (7, .int v7)]) hx hb dX7_read_132 hl (by decide) rfl (fun ls hl => ?_)
      refine lv_iload hx hb dX7_read_134 (lv_at hl 4 rfl) ?_
      refine lv_iload hx hb dX7_read_136 (lv_at hl 0 rfl) ?_
      refine lv_iadd hx hb dX7_read_138 ?_
      refine lv_istore (lv' := [(5, .int (v5 + (Mreading ((8 * v1) + v7).toNatClampNeg))), (8, .int (Mreading ((8 * v1) + v7).toNatClampNeg)), (0, .ref (aM 0)), (1, .int v1), (4, .int v4), (6, .int v6), (7, .int v7)]) hx hb dX7_read_139 hl (by decide) rfl (fun ls hl => ?_)
      refine lv_iload hx hb dX7_read_141 (lv_at hl 5 rfl) ?_
      refine lv_iload hx hb dX7_read_143 (lv_at hl 1 rfl) ?_
      refine lv_iload hx hb dX7_read_145 (lv_at hl 1 rfl) ?_
      refine lv_imul hx hb dX7_read_147 ?_
      refine lv_iadd hx hb dX7_read_148 ?_
      refine lv_istore (lv' := [(6, .int (v6 + ((Mreading ((8 * v1) + v7).toNatClampNeg) * (Mreading ((8 * v1) + v7).toNatClampNeg)))), (5, .int (v5 + (Mreading ((8 * v1) + v7).toNatClampNeg))), (8, .int (Mreading ((8 * v1) + v7).toNatClampNeg)), (0, .ref (aM 0)), (1, .int v1), (4, .int v4), (7, .int v7)]) hx hb dX7_read_149 hl (by decide) rfl (fun ls hl => ?_)
      refine lv_iinc (v := v7 + 1) (lv' := [(7, .int (v7 + 1)), (6, .int (v6 + ((Mreading ((8 * v1) + v7).toNatClampNeg) * (Mreading ((8 * v1) + v7).toNatClampNeg)))), (5, .int (v5 + (Mreading ((8 * v1) + v7).toNatClampNeg))), (8, .int (Mreading ((8 * v1) + v7).toNatClampNeg)), (0, .ref (aM 0)), (1, .int v1), (4, .int v4)]) hx hb dX7_read_151 hl (k := 6) rfl rfl (by decide) rfl (fun ls hl => ?_)
      refine lv_goto (tgt := 113) hx hb dX7_read_154 (by decide) ?_
      exact ih _ _ _ _ _ _ _ _ _ _ _ h _ _ _ hP hD hS (lv_sub hl [4, 5, 6, 2, 1, 0] rfl)
  have BH_207 : ∀ (s1 : Int32) (s2 : Int32) (Mestimate : Nat → Int32) (Msort : Nat → Int32) (Mwidth : Nat → Int32) (Mmany : Nat → Int32) (Mreading : Nat → Int32) (Mvariance : Nat → Int32) (Mthrown : Int32), BX7_read_207 v1 v2 s1 s2 Mestimate Msort Mwidth Mmany Mreading Mvariance Mthrown = some (r, RMestimate, RMsort, RMwidth, RMmany, RMreading, RMvariance, RMthrown) → ∀ (H : Heap) (locs : List Loc) (ls : Array Slot), va_P D vwCl (wM k aM Mestimate Munit Msort Mwidth Mmany Mreading Mvariance Mcovariance Mline Mformulas Mroot Mkind Mone Mother Msigns Mplace MleftOf MrightOf Mtype Msum Msign MsignAt Mproduct Mvalue Mslope Mexponent Mdrawn Mslopes Mfrom Mfactor Mthrown Mlength Mmodels Mopen Mat Mrows Mx) H → va_D A (wM k aM Mestimate Munit Msort Mwidth Mmany Mreading Mvariance Mcovariance Mline Mformulas Mroot Mkind Mone Mother Msigns Mplace MleftOf MrightOf Mtype Msum Msign MsignAt Mproduct Mvalue Mslope Mexponent Mdrawn Mslopes Mfrom Mfactor Mthrown Mlength Mmodels Mopen Mat Mrows Mx) → va_S A s.heap H locs → lv_has ls 9 [(0, .ref (aM 0)), (1, .int v1)] → W p l e rmX7_read s m args below meth c H locs 0 0 Q (F0 m 207 ls [.int s2, .int s1, .ref (aM 7)]) := by
    intro  s1 s2 Mestimate Msort Mwidth Mmany Mreading Mvariance Mthrown h H locs ls hP hD hS hl
    unfold BX7_read_207 at h
    obtain ⟨hi22, h⟩ := gi_inv h
    refine va_iast hx hb hK hP hD hS 7 0 rfl rfl hi22 dX7_read_207 (fun H locs hP hD hS => ?_)
    replace hP : va_P D vwCl (wM k aM Mestimate Munit Msort Mwidth Mmany Mreading (upd Mvariance (s1.toNatClampNeg) s2) Mcovariance Mline Mformulas Mroot Mkind Mone Mother Msigns Mplace MleftOf MrightOf Mtype Msum Msign MsignAt Mproduct Mvalue Mslope Mexponent Mdrawn Mslopes Mfrom Mfactor Mthrown Mlength Mmodels Mopen Mat Mrows Mx) H := hP
    replace hD : va_D A (wM k aM Mestimate Munit Msort Mwidth Mmany Mreading (upd Mvariance (s1.toNatClampNeg) s2) Mcovariance Mline Mformulas Mroot Mkind Mone Mother Msigns Mplace MleftOf MrightOf Mtype Msum Msign MsignAt Mproduct Mvalue Mslope Mexponent Mdrawn Mslopes Mfrom Mfactor Mthrown Mlength Mmodels Mopen Mat Mrows Mx) := hD
    refine lv_aload_n hx hb dX7_read_208 rfl (lv_at hl 0 rfl) ?_
    refine va_get (D := D) (ci := 7) (v := .ref (aM 7)) (C := RX7) (T := TX7) (N := 37) hx hb hts iX7 hown hK hP 0 rfl rfl 7 (by decide) f28 (fun _ h9 => h9) rfl dX7_read_209 ?_
    refine lv_iload_n hx hb dX7_read_212 rfl (lv_at hl 1 rfl) ?_
    obtain ⟨hi23, h⟩ := gi_inv h
    refine va_iald hx hb hK hP 7 0 rfl rfl hi23 dX7_read_213 ?_
    have hP9 := hP
    have hD9 := hD
    have hS9 := hS
    subst hQ
    cases h
    exact W.iret hx hb hr (fun t ht hW => ⟨⟨_, (), rfl, rfl, by rw [ht]; exact hP9, va_K.moved hW.alike hK, hD9⟩, hS9.F ht⟩) hS9.2.2 dX7_read_214
  have BH_47 : ∀ (s1 : Int32) (Mestimate : Nat → Int32) (Msort : Nat → Int32) (Mwidth : Nat → Int32) (Mmany : Nat → Int32) (Mreading : Nat → Int32) (Mvariance : Nat → Int32) (Mthrown : Int32), BX7_read_47 v1 v2 s1 Mestimate Msort Mwidth Mmany Mreading Mvariance Mthrown = some (r, RMestimate, RMsort, RMwidth, RMmany, RMreading, RMvariance, RMthrown) → ∀ (H : Heap) (locs : List Loc) (ls : Array Slot), va_P D vwCl (wM k aM Mestimate Munit Msort Mwidth Mmany Mreading Mvariance Mcovariance Mline Mformulas Mroot Mkind Mone Mother Msigns Mplace MleftOf MrightOf Mtype Msum Msign MsignAt Mproduct Mvalue Mslope Mexponent Mdrawn Mslopes Mfrom Mfactor Mthrown Mlength Mmodels Mopen Mat Mrows Mx) H → va_D A (wM k aM Mestimate Munit Msort Mwidth Mmany Mreading Mvariance Mcovariance Mline Mformulas Mroot Mkind Mone Mother Msigns Mplace MleftOf MrightOf Mtype Msum Msign MsignAt Mproduct Mvalue Mslope Mexponent Mdrawn Mslopes Mfrom Mfactor Mthrown Mlength Mmodels Mopen Mat Mrows Mx) → va_S A s.heap H locs → lv_has ls 9 [(0, .ref (aM 0)), (1, .int v1), (2, .int v2)] → W p l e rmX7_read s m args below meth c H locs 0 0 Q (F0 m 47 ls [.int s1, .ref (aM 0)]) := by
    intro  s1 Mestimate Msort Mwidth Mmany Mreading Mvariance Mthrown h H locs ls hP hD hS hl
    unfold BX7_read_47 at h
    obtain ⟨r7, thrown_7, hc7, h⟩ := bnd2_inv h
    have hFc := va_free (wc := (wM k aM Mestimate Munit Msort Mwidth Mmany Mreading Mvariance Mcovariance Mline Mformulas Mroot Mkind Mone Mother Msigns Mplace MleftOf MrightOf Mtype Msum Msign MsignAt Mproduct Mvalue Mslope Mexponent Mdrawn Mslopes Mfrom Mfactor Mthrown Mlength Mmodels Mopen Mat Mrows Mx)) hD hS hA [0, 1, 2, 3, 4, 5, 6, 7, 8, 9, 10, 11, 12, 13, 14, 15, 16, 17, 18, 19, 20, 21, 22, 23, 24, 25, 26, 27, 28, 29, 30] rfl
    refine xc_i (va_runV (As := [.int s1]) (rest := []) ⟨hx, hb, hml, hown, hts⟩ (met_X7_holds l D k  aM H.size Mestimate Munit Msort Mwidth Mmany Mreading Mvariance Mcovariance Mline Mformulas Mroot Mkind Mone Mother Msigns Mplace MleftOf MrightOf Mtype Msum Msign MsignAt Mproduct Mvalue Mslope Mexponent Mdrawn Mslopes Mfrom Mfactor Mthrown Mlength Mmodels Mopen Mat Mrows Mx s1 r7 thrown_7 hc7) (cwV 1 hts gX7_read_X7_holds rfl rfl rfl (by decide +kernel) ⟨Nat.le_of_ble_eq_true rfl, Nat.le_of_ble_eq_true rfl⟩) ⟨pw_blind, va_recv hK hP (ci := 7) (q0 := 0) rfl rfl, pw_start hP hK hD⟩ rfl rfl hl.1 rfl (lv_room (Nat.le_of_ble_eq_true rfl)) dX7_read_47 ⟨Nat.zero_le _, Nat.zero_le _⟩) hS hFc (fun H1 locs hP1 hD1 hk1 hS => ?_)
    obtain ⟨hP, hD⟩ := vj_all hFc hP1 hD1
    clear hP1 hD1 hk1 hFc
    generalize H1 = H at hP hS ⊢
    refine lv_if_ne (tgt := 55) hx hb dX7_read_50 (by decide) (fun c8 => ?_) (fun c8 => ?_)
    · replace h := sf_f c8 h
      refine lv_aload_n hx hb dX7_read_55 rfl (lv_at hl 0 rfl) ?_
      refine va_get (D := D) (ci := 7) (v := .ref (aM 3)) (C := RX7) (T := TX7) (N := 37) hx hb hts iX7 hown hK hP 0 rfl rfl 3 (by decide) f16 (fun _ h9 => h9) rfl dX7_read_56 ?_
      refine lv_iload_n hx hb dX7_read_59 rfl (lv_at hl 1 rfl) ?_
      refine lv_iconst (v := 4) hx hb dX7_read_60 (by decide) ?_
      obtain ⟨hi9, h⟩ := gi_inv h
      refine va_iast hx hb hK hP hD hS 3 0 rfl rfl hi9 dX7_read_61 (fun H locs hP hD hS => ?_)
      replace hP : va_P D vwCl (wM k aM Mestimate Munit (upd Msort (v1.toNatClampNeg) 4) Mwidth Mmany Mreading Mvariance Mcovariance Mline Mformulas Mroot Mkind Mone Mother Msigns Mplace MleftOf MrightOf Mtype Msum Msign MsignAt Mproduct Mvalue Mslope Mexponent Mdrawn Mslopes Mfrom Mfactor thrown_7 Mlength Mmodels Mopen Mat Mrows Mx) H := hP
      replace hD : va_D A (wM k aM Mestimate Munit (upd Msort (v1.toNatClampNeg) 4) Mwidth Mmany Mreading Mvariance Mcovariance Mline Mformulas Mroot Mkind Mone Mother Msigns Mplace MleftOf MrightOf Mtype Msum Msign MsignAt Mproduct Mvalue Mslope Mexponent Mdrawn Mslopes Mfrom Mfactor thrown_7 Mlength Mmodels Mopen Mat Mrows Mx) := hD
      refine lv_aload_n hx hb dX7_read_62 rfl (lv_at hl 0 rfl) ?_
      refine va_get (D := D) (ci := 7) (v := .ref (aM 4)) (C := RX7) (T := TX7) (N := 37) hx hb hts iX7 hown hK hP 0 rfl rfl 4 (by decide) f19 (fun _ h9 => h9) rfl dX7_read_63 ?_
      refine lv_iload_n hx hb dX7_read_66 rfl (lv_at hl 1 rfl) ?_
      refine lv_iconst (v := 0) hx hb dX7_read_67 (by decide) ?_
      obtain ⟨hi10, h⟩ := gi_inv h
      refine va_iast hx hb hK hP hD hS 4 0 rfl rfl hi10 dX7_read_68 (fun H locs hP hD hS => ?_)
      replace hP : va_P D vwCl (wM k aM Mestimate Munit (upd Msort (v1.toNatClampNeg) 4) (upd Mwidth (v1.toNatClampNeg) 0) Mmany Mreading Mvariance Mcovariance Mline Mformulas Mroot Mkind Mone Mother Msigns Mplace MleftOf MrightOf Mtype Msum Msign MsignAt Mproduct Mvalue Mslope Mexponent Mdrawn Mslopes Mfrom Mfactor thrown_7 Mlength Mmodels Mopen Mat Mrows Mx) H := hP
      replace hD : va_D A (wM k aM Mestimate Munit (upd Msort (v1.toNatClampNeg) 4) (upd Mwidth (v1.toNatClampNeg) 0) Mmany Mreading Mvariance Mcovariance Mline Mformulas Mroot Mkind Mone Mother Msigns Mplace MleftOf MrightOf Mtype Msum Msign MsignAt Mproduct Mvalue Mslope Mexponent Mdrawn Mslopes Mfrom Mfactor thrown_7 Mlength Mmodels Mopen Mat Mrows Mx) := hD
      refine lv_aload_n hx hb dX7_read_69 rfl (lv_at hl 0 rfl) ?_
      refine va_get (D := D) (ci := 7) (v := .ref (aM 6)) (C := RX7) (T := TX7) (N := 37) hx hb hts iX7 hown hK hP 0 rfl rfl 6 (by decide) f25 (fun _ h9 => h9) rfl dX7_read_70 ?_
      refine lv_bipush (v := 8) hx hb dX7_read_73 (by decide) ?_
      refine lv_iload_n hx hb dX7_read_75 rfl (lv_at hl 1 rfl) ?_
      refine lv_imul hx hb dX7_read_76 ?_
      refine lv_aload_n hx hb dX7_read_77 rfl (lv_at hl 0 rfl) ?_
      refine va_get (D := D) (ci := 7) (v := .ref (aM 5)) (C := RX7) (T := TX7) (N := 37) hx hb hts iX7 hown hK hP 0 rfl rfl 5 (by decide) f22 (fun _ h9 => h9) rfl dX7_read_78 ?_
      refine lv_iload_n hx hb dX7_read_81 rfl (lv_at hl 1 rfl) ?_
      obtain ⟨hi11, h⟩ := gi_inv h
      refine va_iald hx hb hK hP 5 0 rfl rfl hi11 dX7_read_82 ?_
      refine lv_iadd hx hb dX7_read_83 ?_
      refine lv_iload_n hx hb dX7_read_84 rfl (lv_at hl 2 rfl) ?_
      obtain ⟨hi12, h⟩ := gi_inv h
      refine va_iast hx hb hK hP hD hS 6 0 rfl rfl hi12 dX7_read_85 (fun H locs hP hD hS => ?_)
      replace hP : va_P D vwCl (wM k aM Mestimate Munit (upd Msort (v1.toNatClampNeg) 4) (upd Mwidth (v1.toNatClampNeg) 0) Mmany (upd Mreading (((8 * v1) + (Mmany v1.toNatClampNeg)).toNatClampNeg) v2) Mvariance Mcovariance Mline Mformulas Mroot Mkind Mone Mother Msigns Mplace MleftOf MrightOf Mtype Msum Msign MsignAt Mproduct Mvalue Mslope Mexponent Mdrawn Mslopes Mfrom Mfactor thrown_7 Mlength Mmodels Mopen Mat Mrows Mx) H := hP
      replace hD : va_D A (wM k aM Mestimate Munit (upd Msort (v1.toNatClampNeg) 4) (upd Mwidth (v1.toNatClampNeg) 0) Mmany (upd Mreading (((8 * v1) + (Mmany v1.toNatClampNeg)).toNatClampNeg) v2) Mvariance Mcovariance Mline Mformulas Mroot Mkind Mone Mother Msigns Mplace MleftOf MrightOf Mtype Msum Msign MsignAt Mproduct Mvalue Mslope Mexponent Mdrawn Mslopes Mfrom Mfactor thrown_7 Mlength Mmodels Mopen Mat Mrows Mx) := hD
      refine lv_aload_n hx hb dX7_read_86 rfl (lv_at hl 0 rfl) ?_
      refine va_get (D := D) (ci := 7) (v := .ref (aM 5)) (C := RX7) (T := TX7) (N := 37) hx hb hts iX7 hown hK hP 0 rfl rfl 5 (by decide) f22 (fun _ h9 => h9) rfl dX7_read_87 ?_
      refine lv_iload_n hx hb dX7_read_90 rfl (lv_at hl 1 rfl) ?_
      refine lv_dup2_11 hx hb dX7_read_91 rfl rfl ?_
      obtain ⟨hi13, h⟩ := gi_inv h
      refine va_iald hx hb hK hP 5 0 rfl rfl hi13 dX7_read_92 ?_
      refine lv_iconst (v := 1) hx hb dX7_read_93 (by decide) ?_
      refine lv_iadd hx hb dX7_read_94 ?_
      obtain ⟨hi14, h⟩ := gi_inv h
      refine va_iast hx hb hK hP hD hS 5 0 rfl rfl hi14 dX7_read_95 (fun H locs hP hD hS => ?_)
      replace hP : va_P D vwCl (wM k aM Mestimate Munit (upd Msort (v1.toNatClampNeg) 4) (upd Mwidth (v1.toNatClampNeg) 0) (upd Mmany (v1.toNatClampNeg) ((Mmany v1.toNatClampNeg) + 1)) (upd Mreading (((8 * v1) + (Mmany v1.toNatClampNeg)).toNatClampNeg) v2) Mvariance Mcovariance Mline Mformulas Mroot Mkind Mone Mother Msigns Mplace MleftOf MrightOf Mtype Msum Msign MsignAt Mproduct Mvalue Mslope Mexponent Mdrawn Mslopes Mfrom Mfactor thrown_7 Mlength Mmodels Mopen Mat Mrows Mx) H := hP
      replace hD : va_D A (wM k aM Mestimate Munit (upd Msort (v1.toNatClampNeg) 4) (upd Mwidth (v1.toNatClampNeg) 0) (upd Mmany (v1.toNatClampNeg) ((Mmany v1.toNatClampNeg) + 1)) (upd Mreading (((8 * v1) + (Mmany v1.toNatClampNeg)).toNatClampNeg) v2) Mvariance Mcovariance Mline Mformulas Mroot Mkind Mone Mother Msigns Mplace MleftOf MrightOf Mtype Msum Msign MsignAt Mproduct Mvalue Mslope Mexponent Mdrawn Mslopes Mfrom Mfactor thrown_7 Mlength Mmodels Mopen Mat Mrows Mx) := hD
      refine lv_aload_n hx hb dX7_read_96 rfl (lv_at hl 0 rfl) ?_
      refine va_get (D := D) (ci := 7) (v := .ref (aM 5)) (C := RX7) (T := TX7) (N := 37) hx hb hts iX7 hown hK hP 0 rfl rfl 5 (by decide) f22 (fun _ h9 => h9) rfl dX7_read_97 ?_
      refine lv_iload_n hx hb dX7_read_100 rfl (lv_at hl 1 rfl) ?_
      obtain ⟨hi15, h⟩ := gi_inv h
      refine va_iald hx hb hK hP 5 0 rfl rfl hi15 dX7_read_101 ?_
      refine lv_istore (lv' := [(4, .int ((upd Mmany (v1.toNatClampNeg) ((Mmany v1.toNatClampNeg) + 1)) v1.toNatClampNeg)), (0, .ref (aM 0)), (1, .int v1), (2, .int v2)]) hx hb dX7_read_102 hl (by decide) rfl (fun ls hl => ?_)
      refine lv_iconst (v := 0) hx hb dX7_read_104 (by decide) ?_
      refine lv_istore (lv' := [(5, .int 0), (4, .int ((upd Mmany (v1.toNatClampNeg) ((Mmany v1.toNatClampNeg) + 1)) v1.toNatClampNeg)), (0, .ref (aM 0)), (1, .int v1), (2, .int v2)]) hx hb dX7_read_105 hl (by decide) rfl (fun ls hl => ?_)
      refine lv_iconst (v := 0) hx hb dX7_read_107 (by decide) ?_
      refine lv_istore (lv' := [(6, .int 0), (5, .int 0), (4, .int ((upd Mmany (v1.toNatClampNeg) ((Mmany v1.toNatClampNeg) + 1)) v1.toNatClampNeg)), (0, .ref (aM 0)), (1, .int v1), (2, .int v2)]) hx hb dX7_read_108 hl (by decide) rfl (fun ls hl => ?_)
      refine lv_iconst (v := 0) hx hb dX7_read_110 (by decide) ?_
      refine lv_istore (lv' := [(7, .int 0), (6, .int 0), (5, .int 0), (4, .int ((upd Mmany (v1.toNatClampNeg) ((Mmany v1.toNatClampNeg) + 1)) v1.toNatClampNeg)), (0, .ref (aM 0)), (1, .int v1), (2, .int v2)]) hx hb dX7_read_111 hl (by decide) rfl (fun ls hl => ?_)
      refine LH_113 _ (fun v4 v5 v6 Mestimate Msort Mwidth Mmany Mreading Mvariance Mthrown h H locs ls hP hD hS hl => ?_) _ _ _ _ _ _ _ _ _ _ _ _ h _ _ _ hP hD hS (lv_sub hl [4, 5, 3, 2, 1, 0] rfl)
      · skip
        refine lv_aload_n hx hb dX7_read_157 rfl (lv_at hl 0 rfl) ?_
        refine va_get (D := D) (ci := 7) (v := .ref (aM 1)) (C := RX7) (T := TX7) (N := 37) hx hb hts iX7 hown hK hP 0 rfl rfl 1 (by decide) f7 (fun _ h9 => h9) rfl dX7_read_158 ?_
        refine lv_iload_n hx hb dX7_read_161 rfl (lv_at hl 1 rfl) ?_
        refine lv_iload hx hb dX7_read_162 (lv_at hl 3 rfl) ?_
        refine lv_iload hx hb dX7_read_164 (lv_at hl 2 rfl) ?_
        obtain ⟨r18, hc18, h⟩ := bnd1_inv h
        have hPc := hP.sub (ws' := ([] : va_W)) [] rfl
        have hDc := hD.sub (ws' := ([] : va_W)) [] rfl rfl
        have hFc := va_free (wc := ([] : va_W)) hD hS hA [] rfl
        refine xc_i (va_runS (As := [.int v5, .int v4]) (rest := [.int v1, .ref (aM 1)]) ⟨hx, hb, hml, hown, hts⟩ (met_X7_floor l D k  H.size v5 v4 r18 hc18) (va_cwS 2 hts gX7_read_X7_floor rfl rfl rfl (by decide +kernel) ⟨Nat.le_of_ble_eq_true rfl, Nat.le_of_ble_eq_true rfl⟩) ⟨pw_blind, pw_start hPc hK hDc⟩ rfl rfl hl.1 rfl (lv_room (Nat.le_of_ble_eq_true rfl)) dX7_read_166 ⟨Nat.zero_le _, Nat.zero_le _⟩) hS hFc (fun H1 locs hP1 hD1 hk1 hS => ?_)
        obtain ⟨hP, hD⟩ := vj (ws' := (wM k aM Mestimate Munit Msort Mwidth Mmany Mreading Mvariance Mcovariance Mline Mformulas Mroot Mkind Mone Mother Msigns Mplace MleftOf MrightOf Mtype Msum Msign MsignAt Mproduct Mvalue Mslope Mexponent Mdrawn Mslopes Mfrom Mfactor Mthrown Mlength Mmodels Mopen Mat Mrows Mx)) (w1 := ([] : va_W)) hP hD [] [0, 1, 2, 3, 4, 5, 6, 7, 8, 9, 10, 11, 12, 13, 14, 15, 16, 17, 18, 19, 20, 21, 22, 23, 24, 25, 26, 27, 28, 29, 30] [0, 1, 2, 3, 4, 5, 6, 7, 8, 9, 10, 11, 12, 13, 14, 15, 16, 17, 18, 19, 20, 21, 22, 23, 24, 25, 26, 27, 28, 29, 30] rfl rfl rfl rfl rfl hk1 hFc hP1 hD1
        clear hP1 hD1 hk1 hFc
        generalize H1 = H at hP hS ⊢
        obtain ⟨hi19, h⟩ := gi_inv h
        refine va_iast hx hb hK hP hD hS 1 0 rfl rfl hi19 dX7_read_169 (fun H locs hP hD hS => ?_)
        replace hP : va_P D vwCl (wM k aM (upd Mestimate (v1.toNatClampNeg) r18) Munit Msort Mwidth Mmany Mreading Mvariance Mcovariance Mline Mformulas Mroot Mkind Mone Mother Msigns Mplace MleftOf MrightOf Mtype Msum Msign MsignAt Mproduct Mvalue Mslope Mexponent Mdrawn Mslopes Mfrom Mfactor Mthrown Mlength Mmodels Mopen Mat Mrows Mx) H := hP
        replace hD : va_D A (wM k aM (upd Mestimate (v1.toNatClampNeg) r18) Munit Msort Mwidth Mmany Mreading Mvariance Mcovariance Mline Mformulas Mroot Mkind Mone Mother Msigns Mplace MleftOf MrightOf Mtype Msum Msign MsignAt Mproduct Mvalue Mslope Mexponent Mdrawn Mslopes Mfrom Mfactor Mthrown Mlength Mmodels Mopen Mat Mrows Mx) := hD
        refine lv_aload_n hx hb dX7_read_170 rfl (lv_at hl 0 rfl) ?_
        refine va_get (D := D) (ci := 7) (v := .ref (aM 7)) (C := RX7) (T := TX7) (N := 37) hx hb hts iX7 hown hK hP 0 rfl rfl 7 (by decide) f28 (fun _ h9 => h9) rfl dX7_read_171 ?_
        refine lv_iload_n hx hb dX7_read_174 rfl (lv_at hl 1 rfl) ?_
        refine lv_iload hx hb dX7_read_175 (lv_at hl 2 rfl) ?_
        refine lv_iconst (v := 1) hx hb dX7_read_177 (by decide) ?_
        refine lv_icmp_ne (tgt := 185) hx hb dX7_read_178 (by decide) (fun c20 => ?_) (fun c20 => ?_)
        · replace h := sf_f c20 h
          refine lv_iload hx hb dX7_read_185 (lv_at hl 2 rfl) ?_
          refine lv_iload hx hb dX7_read_187 (lv_at hl 4 rfl) ?_
          refine lv_imul hx hb dX7_read_189 ?_
          refine lv_iload hx hb dX7_read_190 (lv_at hl 3 rfl) ?_
          refine lv_iload hx hb dX7_read_192 (lv_at hl 3 rfl) ?_
          refine lv_imul hx hb dX7_read_194 ?_
          refine lv_isub hx hb dX7_read_195 ?_
          refine lv_iload hx hb dX7_read_196 (lv_at hl 2 rfl) ?_
          refine lv_iload hx hb dX7_read_198 (lv_at hl 2 rfl) ?_
          refine lv_imul hx hb dX7_read_200 ?_
          refine lv_iload hx hb dX7_read_201 (lv_at hl 2 rfl) ?_
          refine lv_iconst (v := 1) hx hb dX7_read_203 (by decide) ?_
          refine lv_isub hx hb dX7_read_204 ?_
          refine lv_imul hx hb dX7_read_205 ?_
          obtain ⟨hz21, h⟩ := gz_inv h
          refine lv_idiv hx hb dX7_read_206 hz21 ?_
          exact BH_207  _ _ _ _ _ _ _ _ _ h _ _ _ hP hD hS (lv_sub hl [0, 1] rfl)
        · replace h := sf_t c20 h
          refine lv_iconst (v := 0) hx hb dX7_read_181 (by decide) ?_
          refine lv_goto (tgt := 207) hx hb dX7_read_182 (by decide) ?_
          exact BH_207  _ _ _ _ _ _ _ _ _ h _ _ _ hP hD hS (lv_sub hl [0, 1] rfl)
    · replace h := sf_t c8 h
      refine lv_iconst (v := 0) hx hb dX7_read_53 (by decide) ?_
      have hP9 := hP
      have hD9 := hD
      have hS9 := hS
      subst hQ
      cases h
      exact W.iret hx hb hr (fun t ht hW => ⟨⟨_, (), rfl, rfl, by rw [ht]; exact hP9, va_K.moved hW.alike hK, hD9⟩, hS9.F ht⟩) hS9.2.2 dX7_read_54
  suffices main : ∀ (H : Heap) (locs : List Loc) (ls : Array Slot), va_P D vwCl (wM k aM Mestimate Munit Msort Mwidth Mmany Mreading Mvariance Mcovariance Mline Mformulas Mroot Mkind Mone Mother Msigns Mplace MleftOf MrightOf Mtype Msum Msign MsignAt Mproduct Mvalue Mslope Mexponent Mdrawn Mslopes Mfrom Mfactor Mthrown Mlength Mmodels Mopen Mat Mrows Mx) H → va_D A (wM k aM Mestimate Munit Msort Mwidth Mmany Mreading Mvariance Mcovariance Mline Mformulas Mroot Mkind Mone Mother Msigns Mplace MleftOf MrightOf Mtype Msum Msign MsignAt Mproduct Mvalue Mslope Mexponent Mdrawn Mslopes Mfrom Mfactor Mthrown Mlength Mmodels Mopen Mat Mrows Mx) → va_S A s.heap H locs → lv_has ls 9 [(0, .ref (aM 0)), (1, .int v1), (2, .int v2)] → W p l e rmX7_read s m args below meth c H locs 0 0 Q (F0 m 0 ls []) from main _ _ _ hP hD hS hl
  clear hP hD hS hl ls hAe
  intro H locs ls hP hD hS hl
  refine lv_iload_n hx hb dX7_read_0 rfl (lv_at hl 1 rfl) ?_
  obtain ⟨r1, hc1, h⟩ := bnd1_inv h
  have hPc := hP.sub (ws' := ([] : va_W)) [] rfl
  have hDc := hD.sub (ws' := ([] : va_W)) [] rfl rfl
  have hFc := va_free (wc := ([] : va_W)) hD hS hA [] rfl
  refine xc_i (va_runS (As := [.int v1]) (rest := []) ⟨hx, hb, hml, hown, hts⟩ (met_X7_isInput l D k  H.size v1 r1 hc1) (va_cwS 1 hts gX7_read_X7_isInput rfl rfl rfl (by decide +kernel) ⟨Nat.le_of_ble_eq_true rfl, Nat.le_of_ble_eq_true rfl⟩) ⟨pw_blind, pw_start hPc hK hDc⟩ rfl rfl hl.1 rfl (lv_room (Nat.le_of_ble_eq_true rfl)) dX7_read_1 ⟨Nat.zero_le _, Nat.zero_le _⟩) hS hFc (fun H1 locs hP1 hD1 hk1 hS => ?_)
  obtain ⟨hP, hD⟩ := vj (ws' := (wM k aM Mestimate Munit Msort Mwidth Mmany Mreading Mvariance Mcovariance Mline Mformulas Mroot Mkind Mone Mother Msigns Mplace MleftOf MrightOf Mtype Msum Msign MsignAt Mproduct Mvalue Mslope Mexponent Mdrawn Mslopes Mfrom Mfactor Mthrown Mlength Mmodels Mopen Mat Mrows Mx)) (w1 := ([] : va_W)) hP hD [] [0, 1, 2, 3, 4, 5, 6, 7, 8, 9, 10, 11, 12, 13, 14, 15, 16, 17, 18, 19, 20, 21, 22, 23, 24, 25, 26, 27, 28, 29, 30] [0, 1, 2, 3, 4, 5, 6, 7, 8, 9, 10, 11, 12, 13, 14, 15, 16, 17, 18, 19, 20, 21, 22, 23, 24, 25, 26, 27, 28, 29, 30] rfl rfl rfl rfl rfl hk1 hFc hP1 hD1
  clear hP1 hD1 hk1 hFc
  generalize H1 = H at hP hS ⊢
  refine lv_istore_n (lv' := [(3, .int r1), (0, .ref (aM 0)), (1, .int v1), (2, .int v2)]) hx hb dX7_read_4 rfl hl (by decide) rfl (fun ls hl => ?_)
  refine lv_aload_n hx hb dX7_read_5 rfl (lv_at hl 1 rfl) ?_
  refine lv_iload_n hx hb dX7_read_6 rfl (lv_at hl 0 rfl) ?_
  refine lv_if_ne (tgt := 14) hx hb dX7_read_7 (by decide) (fun c2 => ?_) (fun c2 => ?_)
  · replace h := sf_f c2 h
    refine lv_iload_n hx hb dX7_read_14 rfl (lv_at hl 3 rfl) ?_
    refine lv_sipush (v := -999) hx hb dX7_read_15 (by decide) ?_
    refine lv_sipush (v := 999) hx hb dX7_read_18 (by decide) ?_
    obtain ⟨r3, hc3, h⟩ := bnd1_inv h
    have hPc := hP.sub (ws' := ([] : va_W)) [] rfl
    have hDc := hD.sub (ws' := ([] : va_W)) [] rfl rfl
    have hFc := va_free (wc := ([] : va_W)) hD hS hA [] rfl
    refine xc_i (va_runS (As := [.int v2, .int ((-999)), .int 999]) (rest := [.ref (aM 0)]) ⟨hx, hb, hml, hown, hts⟩ (met_X7_isIn l D k  H.size v2 ((-999)) 999 r3 hc3) (va_cwS 3 hts gX7_read_X7_isIn rfl rfl rfl (by decide +kernel) ⟨Nat.le_of_ble_eq_true rfl, Nat.le_of_ble_eq_true rfl⟩) ⟨pw_blind, pw_start hPc hK hDc⟩ rfl rfl hl.1 rfl (lv_room (Nat.le_of_ble_eq_true rfl)) dX7_read_21 ⟨Nat.zero_le _, Nat.zero_le _⟩) hS hFc (fun H1 locs hP1 hD1 hk1 hS => ?_)
    obtain ⟨hP, hD⟩ := vj (ws' := (wM k aM Mestimate Munit Msort Mwidth Mmany Mreading Mvariance Mcovariance Mline Mformulas Mroot Mkind Mone Mother Msigns Mplace MleftOf MrightOf Mtype Msum Msign MsignAt Mproduct Mvalue Mslope Mexponent Mdrawn Mslopes Mfrom Mfactor Mthrown Mlength Mmodels Mopen Mat Mrows Mx)) (w1 := ([] : va_W)) hP hD [] [0, 1, 2, 3, 4, 5, 6, 7, 8, 9, 10, 11, 12, 13, 14, 15, 16, 17, 18, 19, 20, 21, 22, 23, 24, 25, 26, 27, 28, 29, 30] [0, 1, 2, 3, 4, 5, 6, 7, 8, 9, 10, 11, 12, 13, 14, 15, 16, 17, 18, 19, 20, 21, 22, 23, 24, 25, 26, 27, 28, 29, 30] rfl rfl rfl rfl rfl hk1 hFc hP1 hD1
    clear hP1 hD1 hk1 hFc
    generalize H1 = H at hP hS ⊢
    refine lv_if_ne (tgt := 31) hx hb dX7_read_24 (by decide) (fun c4 => ?_) (fun c4 => ?_)
    · replace h := sf_f c4 h
      refine lv_aload_n hx hb dX7_read_31 rfl (lv_at hl 1 rfl) ?_
      refine va_get (D := D) (ci := 7) (v := .ref (aM 5)) (C := RX7) (T := TX7) (N := 37) hx hb hts iX7 hown hK hP 0 rfl rfl 5 (by decide) f22 (fun _ h9 => h9) rfl dX7_read_32 ?_
      refine lv_iload_n hx hb dX7_read_35 rfl (lv_at hl 2 rfl) ?_
      obtain ⟨hi5, h⟩ := gi_inv h
      refine va_iald hx hb hK hP 5 0 rfl rfl hi5 dX7_read_36 ?_
      refine lv_bipush (v := 8) hx hb dX7_read_37 (by decide) ?_
      refine lv_icmp_ne (tgt := 46) hx hb dX7_read_39 (by decide) (fun c6 => ?_) (fun c6 => ?_)
      · replace h := sf_f c6 h
        refine lv_iconst (v := 0) hx hb dX7_read_46 (by decide) ?_
        exact BH_47  _ _ _ _ _ _ _ _ h _ _ _ hP hD hS (lv_sub hl [1, 2, 3] rfl)
      · replace h := sf_t c6 h
        refine lv_iconst (v := 3) hx hb dX7_read_42 (by decide) ?_
        refine lv_goto (tgt := 47) hx hb dX7_read_43 (by decide) ?_
        exact BH_47  _ _ _ _ _ _ _ _ h _ _ _ hP hD hS (lv_sub hl [1, 2, 3] rfl)
    · replace h := sf_t c4 h
      refine lv_iconst (v := 2) hx hb dX7_read_27 (by decide) ?_
      refine lv_goto (tgt := 47) hx hb dX7_read_28 (by decide) ?_
      exact BH_47  _ _ _ _ _ _ _ _ h _ _ _ hP hD hS (lv_sub hl [1, 2, 3] rfl)
  · replace h := sf_t c2 h
    refine lv_iconst (v := 1) hx hb dX7_read_10 (by decide) ?_
    refine lv_goto (tgt := 47) hx hb dX7_read_11 (by decide) ?_
    exact BH_47  _ _ _ _ _ _ _ _ h _ _ _ hP hD hS (lv_sub hl [1, 2, 3] rfl)
def BX7_laysExponents_149 (Munit : Nat → Int32) (Mformulas : Nat → Int32) (Mkind : Nat → Int32) (Mone : Nat → Int32) (Mother : Nat → Int32) (v1 : Int32) (v2 : Int32) (K : Int32 → (Nat → Int32) → Option ((Nat → Int32))) (E157 : (Nat → Int32) → Option ((Nat → Int32))) (v3 : Int32) (s1 : Int32) (s2 : Int32) (s3 : Int32) (Mexponent : Nat → Int32) : Option ((Nat → Int32)) := gi s1 64 (K (v3 + 1) (upd Mexponent (s1.toNatClampNeg) (s2 * s3)))
def LX7_laysExponents_2 (Munit : Nat → Int32) (Mformulas : Nat → Int32) (Mkind : Nat → Int32) (Mone : Nat → Int32) (Mother : Nat → Int32) (v1 : Int32) (v2 : Int32) (E157 : (Nat → Int32) → Option ((Nat → Int32))) : Nat → Int32 → (Nat → Int32) → Option ((Nat → Int32))
  | 0, _, _ => none
  | fuel + 1, v3, Mexponent => gi v1 9 ((if (Mformulas v1.toNatClampNeg) ≤ v3 then E157 Mexponent else gi ((64 * v1) + v3) 576 ((if (Mkind ((64 * v1) + v3).toNatClampNeg) = 0 then gi v3 64 (LX7_laysExponents_2 Munit Mformulas Mkind Mone Mother v1 v2 E157 fuel (v3 + 1) (upd Mexponent (v3.toNatClampNeg) 0)) else (if (Mkind ((64 * v1) + v3).toNatClampNeg) = 1 then gi ((64 * v1) + v3) 576 (gi ((2 * (Mone ((64 * v1) + v3).toNatClampNeg)) + v2) 12 (gi v3 64 (LX7_laysExponents_2 Munit Mformulas Mkind Mone Mother v1 v2 E157 fuel (v3 + 1) (upd Mexponent (v3.toNatClampNeg) (Munit ((2 * (Mone ((64 * v1) + v3).toNatClampNeg)) + v2).toNatClampNeg))))) else (if (Mkind ((64 * v1) + v3).toNatClampNeg) = 4 then gi ((64 * v1) + v3) 576 (gi (Mone ((64 * v1) + v3).toNatClampNeg) 64 (gi ((64 * v1) + v3) 576 (gi (Mother ((64 * v1) + v3).toNatClampNeg) 64 (gi v3 64 (LX7_laysExponents_2 Munit Mformulas Mkind Mone Mother v1 v2 E157 fuel (v3 + 1) (upd Mexponent (v3.toNatClampNeg) ((Mexponent (Mone ((64 * v1) + v3).toNatClampNeg).toNatClampNeg) + (Mexponent (Mother ((64 * v1) + v3).toNatClampNeg).toNatClampNeg)))))))) else gi ((64 * v1) + v3) 576 (gi (Mone ((64 * v1) + v3).toNatClampNeg) 64 ((if (Mkind ((64 * v1) + v3).toNatClampNeg) = 5 then gi ((64 * v1) + v3) 576 (BX7_laysExponents_149 Munit Mformulas Mkind Mone Mother v1 v2 (LX7_laysExponents_2 Munit Mformulas Mkind Mone Mother v1 v2 E157 fuel) E157 v3 v3 (Mexponent (Mone ((64 * v1) + v3).toNatClampNeg).toNatClampNeg) (Mother ((64 * v1) + v3).toNatClampNeg) Mexponent) else BX7_laysExponents_149 Munit Mformulas Mkind Mone Mother v1 v2 (LX7_laysExponents_2 Munit Mformulas Mkind Mone Mother v1 v2 E157 fuel) E157 v3 v3 (Mexponent (Mone ((64 * v1) + v3).toNatClampNeg).toNatClampNeg) 1 Mexponent)))))))))
def fX7_laysExponents (v1 : Int32) (v2 : Int32) (Munit : Nat → Int32) (Mformulas : Nat → Int32) (Mkind : Nat → Int32) (Mone : Nat → Int32) (Mother : Nat → Int32) (Mexponent : Nat → Int32) : Option ((Nat → Int32)) := LX7_laysExponents_2 Munit Mformulas Mkind Mone Mother v1 v2 (fun (Mexponent : Nat → Int32) => some (Mexponent)) 1000 0 Mexponent
abbrev rmX7_laysExponents : Room := { frames := 0, cells := 0, slots := 0, locals := 0 }
set_option maxHeartbeats 4000000 in
set_option maxRecDepth 100000 in
theorem met_X7_laysExponents (l : Launch) (D : va_G) (k : Nat → ClassId)  (aM : Nat → Nat) (sz : Nat) (Mestimate : Nat → Int32) (Munit : Nat → Int32) (Msort : Nat → Int32) (Mwidth : Nat → Int32) (Mmany : Nat → Int32) (Mreading : Nat → Int32) (Mvariance : Nat → Int32) (Mcovariance : Nat → Int32) (Mline : Nat → Int32) (Mformulas : Nat → Int32) (Mroot : Nat → Int32) (Mkind : Nat → Int32) (Mone : Nat → Int32) (Mother : Nat → Int32) (Msigns : Nat → Int32) (Mplace : Nat → Int32) (MleftOf : Nat → Int32) (MrightOf : Nat → Int32) (Mtype : Nat → Int32) (Msum : Nat → Int32) (Msign : Nat → Int32) (MsignAt : Nat → Int32) (Mproduct : Nat → Int32) (Mvalue : Nat → Int64) (Mslope : Nat → Int64) (Mexponent : Nat → Int32) (Mdrawn : Nat → Int32) (Mslopes : Nat → Int64) (Mfrom : Nat → Int32) (Mfactor : Nat → Int32) (Mthrown : Int32) (Mlength : Int32) (Mmodels : Int32) (Mopen : Int32) (Mat : Int32) (Mrows : Int32) (Mx : Int32) (v1 : Int32) (v2 : Int32) (RMexponent : Nat → Int32) (h : fX7_laysExponents v1 v2 Munit Mformulas Mkind Mone Mother Mexponent = some RMexponent) : Met l yX7_laysExponents wsX7_laysExponents rmX7_laysExponents (va_Pc [.ref (aM 0), .int v1, .int v2] (PreW D k (wM k aM Mestimate Munit Msort Mwidth Mmany Mreading Mvariance Mcovariance Mline Mformulas Mroot Mkind Mone Mother Msigns Mplace MleftOf MrightOf Mtype Msum Msign MsignAt Mproduct Mvalue Mslope Mexponent Mdrawn Mslopes Mfrom Mfactor Mthrown Mlength Mmodels Mopen Mat Mrows Mx) sz)) (va_Qv (fun _ : Unit => True) (fun _ t => PostW D k (va_A (wM k aM Mestimate Munit Msort Mwidth Mmany Mreading Mvariance Mcovariance Mline Mformulas Mroot Mkind Mone Mother Msigns Mplace MleftOf MrightOf Mtype Msum Msign MsignAt Mproduct Mvalue Mslope Mexponent Mdrawn Mslopes Mfrom Mfactor Mthrown Mlength Mmodels Mopen Mat Mrows Mx) sz) (wM k aM Mestimate Munit Msort Mwidth Mmany Mreading Mvariance Mcovariance Mline Mformulas Mroot Mkind Mone Mother Msigns Mplace MleftOf MrightOf Mtype Msum Msign MsignAt Mproduct Mvalue Mslope RMexponent Mdrawn Mslopes Mfrom Mfactor Mthrown Mlength Mmodels Mopen Mat Mrows Mx) t) (va_A (wM k aM Mestimate Munit Msort Mwidth Mmany Mreading Mvariance Mcovariance Mline Mformulas Mroot Mkind Mone Mother Msigns Mplace MleftOf MrightOf Mtype Msum Msign MsignAt Mproduct Mvalue Mslope Mexponent Mdrawn Mslopes Mfrom Mfactor Mthrown Mlength Mmodels Mopen Mat Mrows Mx) sz)) 0 0 (va_A (wM k aM Mestimate Munit Msort Mwidth Mmany Mreading Mvariance Mcovariance Mline Mformulas Mroot Mkind Mone Mother Msigns Mplace MleftOf MrightOf Mtype Msum Msign MsignAt Mproduct Mvalue Mslope Mexponent Mdrawn Mslopes Mfrom Mfactor Mthrown Mlength Mmodels Mopen Mat Mrows Mx) sz) := by
  refine Met.ofW (cc := cX7_laysExponents) (maxL := 6) (ret := none) (by decide) rfl ?_
  intro p e s m args below meth c s₁ B hml hv
  obtain ⟨hav, hsz, hP, hK, hD0⟩ := hv
  have hx := B.exec
  have hb := B.bytes
  have hr := B.returns
  have hts := atoms_spec (ws := wsX7_laysExponents) B.pre
  have hown : s.vm.findClass RX7 = some m.cls := findClass_of_methodNamed B.named
  have hlocks := B.notSynchronized
  subst hsz
  have hD := hD0.self (sz := s.heap.size)
  clear hD0
  generalize hAe : va_A (wM k aM Mestimate Munit Msort Mwidth Mmany Mreading Mvariance Mcovariance Mline Mformulas Mroot Mkind Mone Mother Msigns Mplace MleftOf MrightOf Mtype Msum Msign MsignAt Mproduct Mvalue Mslope Mexponent Mdrawn Mslopes Mfrom Mfactor Mthrown Mlength Mmodels Mopen Mat Mrows Mx) s.heap.size = A at hD ⊢
  have hA : ∀ q : Nat, s.heap.size ≤ q → A q := fun q h => by rw [← hAe]; exact Or.inr h
  have hS : va_S A s.heap s.heap [] := va_S.rf
  have hl := lv_entry ([.ref (aM 0), .int v1, .int v2]) (n := 6) (Nat.le_of_ble_eq_true rfl)
  rw [show entryFrame m args 6 = entryFrame m ([.ref (aM 0), .int v1, .int v2] : List Value).toArray 6 from by rw [hav], lg_entry_eq]
  generalize (lg_sl ([.ref (aM 0), .int v1, .int v2]) ++ List.replicate (6 - (lg_sl ([.ref (aM 0), .int v1, .int v2])).length) Slot.unset).toArray = ls at hl ⊢
  replace hl : lv_has ls 6 [(0, .ref (aM 0)), (1, .int v1), (2, .int v2)] := hl
  have f13 := hts (.fieldLink RX7 13 "UncertainBookModel" "unit" "[I") (by decide +kernel)
  have f37 := hts (.fieldLink RX7 37 "UncertainBookModel" "formulas" "[I") (by decide +kernel)
  have f43 := hts (.fieldLink RX7 43 "UncertainBookModel" "kind" "[I") (by decide +kernel)
  have f46 := hts (.fieldLink RX7 46 "UncertainBookModel" "one" "[I") (by decide +kernel)
  have f49 := hts (.fieldLink RX7 49 "UncertainBookModel" "other" "[I") (by decide +kernel)
  have f86 := hts (.fieldLink RX7 86 "UncertainBookModel" "exponent" "[I") (by decide +kernel)
  have iX7 : ∀ w ∈ u_ws RX7 TX7 37, w ∈ wsX7_laysExponents := by decide +kernel
  refine w_q (fun Q hQ => ?_)
  unfold fX7_laysExponents at h
  show W p l e rmX7_laysExponents s m args below meth c s.heap [] 0 0 Q (F0 m 0 ls [])
  have BH_149 : ∀ (K : Int32 → (Nat → Int32) → Option ((Nat → Int32))) (hKK : ∀ (v3 : Int32) (Mexponent : Nat → Int32), K v3 Mexponent = some RMexponent → ∀ (H : Heap) (locs : List Loc) (ls : Array Slot), va_P D vwCl (wM k aM Mestimate Munit Msort Mwidth Mmany Mreading Mvariance Mcovariance Mline Mformulas Mroot Mkind Mone Mother Msigns Mplace MleftOf MrightOf Mtype Msum Msign MsignAt Mproduct Mvalue Mslope Mexponent Mdrawn Mslopes Mfrom Mfactor Mthrown Mlength Mmodels Mopen Mat Mrows Mx) H → va_D A (wM k aM Mestimate Munit Msort Mwidth Mmany Mreading Mvariance Mcovariance Mline Mformulas Mroot Mkind Mone Mother Msigns Mplace MleftOf MrightOf Mtype Msum Msign MsignAt Mproduct Mvalue Mslope Mexponent Mdrawn Mslopes Mfrom Mfactor Mthrown Mlength Mmodels Mopen Mat Mrows Mx) → va_S A s.heap H locs → lv_has ls 6 [(0, .ref (aM 0)), (1, .int v1), (2, .int v2), (3, .int v3)] → W p l e rmX7_laysExponents s m args below meth c H locs 0 0 Q (F0 m 2 ls [])) (E157 : (Nat → Int32) → Option ((Nat → Int32))) (hE157 : ∀ (Mexponent : Nat → Int32), E157 Mexponent = some RMexponent → ∀ (H : Heap) (locs : List Loc) (ls : Array Slot), va_P D vwCl (wM k aM Mestimate Munit Msort Mwidth Mmany Mreading Mvariance Mcovariance Mline Mformulas Mroot Mkind Mone Mother Msigns Mplace MleftOf MrightOf Mtype Msum Msign MsignAt Mproduct Mvalue Mslope Mexponent Mdrawn Mslopes Mfrom Mfactor Mthrown Mlength Mmodels Mopen Mat Mrows Mx) H → va_D A (wM k aM Mestimate Munit Msort Mwidth Mmany Mreading Mvariance Mcovariance Mline Mformulas Mroot Mkind Mone Mother Msigns Mplace MleftOf MrightOf Mtype Msum Msign MsignAt Mproduct Mvalue Mslope Mexponent Mdrawn Mslopes Mfrom Mfactor Mthrown Mlength Mmodels Mopen Mat Mrows Mx) → va_S A s.heap H locs → lv_has ls 6 [] → W p l e rmX7_laysExponents s m args below meth c H locs 0 0 Q (F0 m 157 ls [])) (v3 : Int32) (s1 : Int32) (s2 : Int32) (s3 : Int32) (Mexponent : Nat → Int32), BX7_laysExponents_149 Munit Mformulas Mkind Mone Mother v1 v2 K E157 v3 s1 s2 s3 Mexponent = some RMexponent → ∀ (H : Heap) (locs : List Loc) (ls : Array Slot), va_P D vwCl (wM k aM Mestimate Munit Msort Mwidth Mmany Mreading Mvariance Mcovariance Mline Mformulas Mroot Mkind Mone Mother Msigns Mplace MleftOf MrightOf Mtype Msum Msign MsignAt Mproduct Mvalue Mslope Mexponent Mdrawn Mslopes Mfrom Mfactor Mthrown Mlength Mmodels Mopen Mat Mrows Mx) H → va_D A (wM k aM Mestimate Munit Msort Mwidth Mmany Mreading Mvariance Mcovariance Mline Mformulas Mroot Mkind Mone Mother Msigns Mplace MleftOf MrightOf Mtype Msum Msign MsignAt Mproduct Mvalue Mslope Mexponent Mdrawn Mslopes Mfrom Mfactor Mthrown Mlength Mmodels Mopen Mat Mrows Mx) → va_S A s.heap H locs → lv_has ls 6 [(0, .ref (aM 0)), (1, .int v1), (2, .int v2), (3, .int v3)] → W p l e rmX7_laysExponents s m args below meth c H locs 0 0 Q (F0 m 149 ls [.int s3, .int s2, .int s1, .ref (aM 26)]) := by
    intro K hKK E157 hE157 v3 s1 s2 s3 Mexponent h H locs ls hP hD hS hl
    unfold BX7_laysExponents_149 at h
    refine lv_imul hx hb dX7_laysExponents_149 ?_
    obtain ⟨hi10, h⟩ := gi_inv h
    refine va_iast hx hb hK hP hD hS 26 0 rfl rfl hi10 dX7_laysExponents_150 (fun H locs hP hD hS => ?_)
    replace hP : va_P D vwCl (wM k aM Mestimate Munit Msort Mwidth Mmany Mreading Mvariance Mcovariance Mline Mformulas Mroot Mkind Mone Mother Msigns Mplace MleftOf MrightOf Mtype Msum Msign MsignAt Mproduct Mvalue Mslope (upd Mexponent (s1.toNatClampNeg) (s2 * s3)) Mdrawn Mslopes Mfrom Mfactor Mthrown Mlength Mmodels Mopen Mat Mrows Mx) H := hP
    replace hD : va_D A (wM k aM Mestimate Munit Msort Mwidth Mmany Mreading Mvariance Mcovariance Mline Mformulas Mroot Mkind Mone Mother Msigns Mplace MleftOf MrightOf Mtype Msum Msign MsignAt Mproduct Mvalue Mslope (upd Mexponent (s1.toNatClampNeg) (s2 * s3)) Mdrawn Mslopes Mfrom Mfactor Mthrown Mlength Mmodels Mopen Mat Mrows Mx) := hD
    refine lv_iinc (v := v3 + 1) (lv' := [(3, .int (v3 + 1)), (0, .ref (aM 0)), (1, .int v1), (2, .int v2)]) hx hb dX7_laysExponents_151 hl (k := 3) rfl rfl (by decide) rfl (fun ls hl => ?_)
    refine lv_goto (tgt := 2) hx hb dX7_laysExponents_154 (by decide) ?_
    exact hKK _ _ h _ _ _ hP hD hS (lv_sub hl [1, 2, 3, 0] rfl)
  have LH_2 : ∀ (E157 : (Nat → Int32) → Option ((Nat → Int32))) (hE157 : ∀ (Mexponent : Nat → Int32), E157 Mexponent = some RMexponent → ∀ (H : Heap) (locs : List Loc) (ls : Array Slot), va_P D vwCl (wM k aM Mestimate Munit Msort Mwidth Mmany Mreading Mvariance Mcovariance Mline Mformulas Mroot Mkind Mone Mother Msigns Mplace MleftOf MrightOf Mtype Msum Msign MsignAt Mproduct Mvalue Mslope Mexponent Mdrawn Mslopes Mfrom Mfactor Mthrown Mlength Mmodels Mopen Mat Mrows Mx) H → va_D A (wM k aM Mestimate Munit Msort Mwidth Mmany Mreading Mvariance Mcovariance Mline Mformulas Mroot Mkind Mone Mother Msigns Mplace MleftOf MrightOf Mtype Msum Msign MsignAt Mproduct Mvalue Mslope Mexponent Mdrawn Mslopes Mfrom Mfactor Mthrown Mlength Mmodels Mopen Mat Mrows Mx) → va_S A s.heap H locs → lv_has ls 6 [] → W p l e rmX7_laysExponents s m args below meth c H locs 0 0 Q (F0 m 157 ls [])) (n : Nat) (v3 : Int32) (Mexponent : Nat → Int32), LX7_laysExponents_2 Munit Mformulas Mkind Mone Mother v1 v2 E157 n v3 Mexponent = some RMexponent → ∀ (H : Heap) (locs : List Loc) (ls : Array Slot), va_P D vwCl (wM k aM Mestimate Munit Msort Mwidth Mmany Mreading Mvariance Mcovariance Mline Mformulas Mroot Mkind Mone Mother Msigns Mplace MleftOf MrightOf Mtype Msum Msign MsignAt Mproduct Mvalue Mslope Mexponent Mdrawn Mslopes Mfrom Mfactor Mthrown Mlength Mmodels Mopen Mat Mrows Mx) H → va_D A (wM k aM Mestimate Munit Msort Mwidth Mmany Mreading Mvariance Mcovariance Mline Mformulas Mroot Mkind Mone Mother Msigns Mplace MleftOf MrightOf Mtype Msum Msign MsignAt Mproduct Mvalue Mslope Mexponent Mdrawn Mslopes Mfrom Mfactor Mthrown Mlength Mmodels Mopen Mat Mrows Mx) → va_S A s.heap H locs → lv_has ls 6 [(0, .ref (aM 0)), (1, .int v1), (2, .int v2), (3, .int v3)] → W p l e rmX7_laysExponents s m args below meth c H locs 0 0 Q (F0 m 2 ls []) := by
    intro E157 hE157 n
    induction n with
    | zero => intro v3 Mexponent h; simp [LX7_laysExponents_2] at h
    | succ n ih =>
    intro v3 Mexponent h H locs ls hP hD hS hl
    rw [LX7_laysExponents_2] at h
    refine lv_iload_n hx hb dX7_laysExponents_2 rfl (lv_at hl 3 rfl) ?_
    refine lv_aload_n hx hb dX7_laysExponents_3 rfl (lv_at hl 0 rfl) ?_
    refine va_get (D := D) (ci := 7) (v := .ref (aM 10)) (C := RX7) (T := TX7) (N := 37) hx hb hts iX7 hown hK hP 0 rfl rfl 12 (by decide) f37 (fun _ h9 => h9) rfl dX7_laysExponents_4 ?_
    refine lv_iload_n hx hb dX7_laysExponents_7 rfl (lv_at hl 1 rfl) ?_
    obtain ⟨hi1, h⟩ := gi_inv h
    refine va_iald hx hb hK hP 10 0 rfl rfl hi1 dX7_laysExponents_8 ?_
    refine lv_icmp_ge (tgt := 157) hx hb dX7_laysExponents_9 (by decide) (fun c2 => ?_) (fun c2 => ?_)
    · replace h := sf_t c2 h
      exact hE157 _ h _ _ _ hP hD hS (lv_sub hl [] rfl)
    · replace h := sf_f c2 h
      refine lv_bipush (v := 64) hx hb dX7_laysExponents_12 (by decide) ?_
      refine lv_iload_n hx hb dX7_laysExponents_14 rfl (lv_at hl 1 rfl) ?_
      refine lv_imul hx hb dX7_laysExponents_15 ?_
      refine lv_iload_n hx hb dX7_laysExponents_16 rfl (lv_at hl 3 rfl) ?_
      refine lv_iadd hx hb dX7_laysExponents_17 ?_
      refine lv_istore (lv' := [(4, .int ((64 * v1) + v3)), (0, .ref (aM 0)), (1, .int v1), (2, .int v2), (3, .int v3)]) hx hb dX7_laysExponents_18 hl (by decide) rfl (fun ls hl => ?_)
      refine lv_aload_n hx hb dX7_laysExponents_20 rfl (lv_at hl 1 rfl) ?_
      refine va_get (D := D) (ci := 7) (v := .ref (aM 12)) (C := RX7) (T := TX7) (N := 37) hx hb hts iX7 hown hK hP 0 rfl rfl 14 (by decide) f43 (fun _ h9 => h9) rfl dX7_laysExponents_21 ?_
      refine lv_iload hx hb dX7_laysExponents_24 (lv_at hl 0 rfl) ?_
      obtain ⟨hi3, h⟩ := gi_inv h
      refine va_iald hx hb hK hP 12 0 rfl rfl hi3 dX7_laysExponents_26 ?_
      refine lv_istore (lv' := [(5, .int (Mkind ((64 * v1) + v3).toNatClampNeg)), (4, .int ((64 * v1) + v3)), (0, .ref (aM 0)), (1, .int v1), (2, .int v2), (3, .int v3)]) hx hb dX7_laysExponents_27 hl (by decide) rfl (fun ls hl => ?_)
      refine lv_iload hx hb dX7_laysExponents_29 (lv_at hl 0 rfl) ?_
      refine lv_if_ne (tgt := 44) hx hb dX7_laysExponents_31 (by decide) (fun c4 => ?_) (fun c4 => ?_)
      · replace h := sf_f c4 h
        refine lv_iload hx hb dX7_laysExponents_44 (lv_at hl 0 rfl) ?_
        refine lv_iconst (v := 1) hx hb dX7_laysExponents_46 (by decide) ?_
        refine lv_icmp_ne (tgt := 75) hx hb dX7_laysExponents_47 (by decide) (fun c5 => ?_) (fun c5 => ?_)
        · replace h := sf_f c5 h
          refine lv_iload hx hb dX7_laysExponents_75 (lv_at hl 0 rfl) ?_
          refine lv_iconst (v := 4) hx hb dX7_laysExponents_77 (by decide) ?_
          refine lv_icmp_ne (tgt := 115) hx hb dX7_laysExponents_78 (by decide) (fun c6 => ?_) (fun c6 => ?_)
          · replace h := sf_f c6 h
            refine lv_aload_n hx hb dX7_laysExponents_115 rfl (lv_at hl 2 rfl) ?_
            refine va_get (D := D) (ci := 7) (v := .ref (aM 26)) (C := RX7) (T := TX7) (N := 37) hx hb hts iX7 hown hK hP 0 rfl rfl 30 (by decide) f86 (fun _ h9 => h9) rfl dX7_laysExponents_116 ?_
            refine lv_iload_n hx hb dX7_laysExponents_119 rfl (lv_at hl 5 rfl) ?_
            refine lv_aload_n hx hb dX7_laysExponents_120 rfl (lv_at hl 2 rfl) ?_
            refine va_get (D := D) (ci := 7) (v := .ref (aM 26)) (C := RX7) (T := TX7) (N := 37) hx hb hts iX7 hown hK hP 0 rfl rfl 30 (by decide) f86 (fun _ h9 => h9) rfl dX7_laysExponents_121 ?_
            refine lv_aload_n hx hb dX7_laysExponents_124 rfl (lv_at hl 2 rfl) ?_
            refine va_get (D := D) (ci := 7) (v := .ref (aM 13)) (C := RX7) (T := TX7) (N := 37) hx hb hts iX7 hown hK hP 0 rfl rfl 15 (by decide) f46 (fun _ h9 => h9) rfl dX7_laysExponents_125 ?_
            refine lv_iload hx hb dX7_laysExponents_128 (lv_at hl 1 rfl) ?_
            obtain ⟨hi7, h⟩ := gi_inv h
            refine va_iald hx hb hK hP 13 0 rfl rfl hi7 dX7_laysExponents_130 ?_
            obtain ⟨hi8, h⟩ := gi_inv h
            refine va_iald hx hb hK hP 26 0 rfl rfl hi8 dX7_laysExponents_131 ?_
            refine lv_iload hx hb dX7_laysExponents_132 (lv_at hl 0 rfl) ?_
            refine lv_iconst (v := 5) hx hb dX7_laysExponents_134 (by decide) ?_
            refine lv_icmp_ne (tgt := 148) hx hb dX7_laysExponents_135 (by decide) (fun c9 => ?_) (fun c9 => ?_)
            · replace h := sf_f c9 h
              refine lv_iconst (v := 1) hx hb dX7_laysExponents_148 (by decide) ?_
              exact BH_149 _ ih _ hE157 _ _ _ _ _ h _ _ _ hP hD hS (lv_sub hl [2, 3, 4, 5] rfl)
            · replace h := sf_t c9 h
              refine lv_aload_n hx hb dX7_laysExponents_138 rfl (lv_at hl 2 rfl) ?_
              refine va_get (D := D) (ci := 7) (v := .ref (aM 14)) (C := RX7) (T := TX7) (N := 37) hx hb hts iX7 hown hK hP 0 rfl rfl 16 (by decide) f49 (fun _ h9 => h9) rfl dX7_laysExponents_139 ?_
              refine lv_iload hx hb dX7_laysExponents_142 (lv_at hl 1 rfl) ?_
              obtain ⟨hi11, h⟩ := gi_inv h
              refine va_iald hx hb hK hP 14 0 rfl rfl hi11 dX7_laysExponents_144 ?_
              refine lv_goto (tgt := 149) hx hb dX7_laysExponents_145 (by decide) ?_
              exact BH_149 _ ih _ hE157 _ _ _ _ _ h _ _ _ hP hD hS (lv_sub hl [2, 3, 4, 5] rfl)
          · replace h := sf_t c6 h
            refine lv_aload_n hx hb dX7_laysExponents_81 rfl (lv_at hl 2 rfl) ?_
            refine va_get (D := D) (ci := 7) (v := .ref (aM 26)) (C := RX7) (T := TX7) (N := 37) hx hb hts iX7 hown hK hP 0 rfl rfl 30 (by decide) f86 (fun _ h9 => h9) rfl dX7_laysExponents_82 ?_
            refine lv_iload_n hx hb dX7_laysExponents_85 rfl (lv_at hl 5 rfl) ?_
            refine lv_aload_n hx hb dX7_laysExponents_86 rfl (lv_at hl 2 rfl) ?_
            refine va_get (D := D) (ci := 7) (v := .ref (aM 26)) (C := RX7) (T := TX7) (N := 37) hx hb hts iX7 hown hK hP 0 rfl rfl 30 (by decide) f86 (fun _ h9 => h9) rfl dX7_laysExponents_87 ?_
            refine lv_aload_n hx hb dX7_laysExponents_90 rfl (lv_at hl 2 rfl) ?_
            refine va_get (D := D) (ci := 7) (v := .ref (aM 13)) (C := RX7) (T := TX7) (N := 37) hx hb hts iX7 hown hK hP 0 rfl rfl 15 (by decide) f46 (fun _ h9 => h9) rfl dX7_laysExponents_91 ?_
            refine lv_iload hx hb dX7_laysExponents_94 (lv_at hl 1 rfl) ?_
            obtain ⟨hi12, h⟩ := gi_inv h
            refine va_iald hx hb hK hP 13 0 rfl rfl hi12 dX7_laysExponents_96 ?_
            obtain ⟨hi13, h⟩ := gi_inv h
            refine va_iald hx hb hK hP 26 0 rfl rfl hi13 dX7_laysExponents_97 ?_
            refine lv_aload_n hx hb dX7_laysExponents_98 rfl (lv_at hl 2 rfl) ?_
            refine va_get (D := D) (ci := 7) (v := .ref (aM 26)) (C := RX7) (T := TX7) (N := 37) hx hb hts iX7 hown hK hP 0 rfl rfl 30 (by decide) f86 (fun _ h9 => h9) rfl dX7_laysExponents_99 ?_
            refine lv_aload_n hx hb dX7_laysExponents_102 rfl (lv_at hl 2 rfl) ?_
            refine va_get (D := D) (ci := 7) (v := .ref (aM 14)) (C := RX7) (T := TX7) (N := 37) hx hb hts iX7 hown hK hP 0 rfl rfl 16 (by decide) f49 (fun _ h9 => h9) rfl dX7_laysExponents_103 ?_
            refine lv_iload hx hb dX7_laysExponents_106 (lv_at hl 1 rfl) ?_
            obtain ⟨hi14, h⟩ := gi_inv h
            refine va_iald hx hb hK hP 14 0 rfl rfl hi14 dX7_laysExponents_108 ?_
            obtain ⟨hi15, h⟩ := gi_inv h
            refine va_iald hx hb hK hP 26 0 rfl rfl hi15 dX7_laysExponents_109 ?_
            refine lv_iadd hx hb dX7_laysExponents_110 ?_
            obtain ⟨hi16, h⟩ := gi_inv h
            refine va_iast hx hb hK hP hD hS 26 0 rfl rfl hi16 dX7_laysExponents_111 (fun H locs hP hD hS => ?_)
            replace hP : va_P D vwCl (wM k aM Mestimate Munit Msort Mwidth Mmany Mreading Mvariance Mcovariance Mline Mformulas Mroot Mkind Mone Mother Msigns Mplace MleftOf MrightOf Mtype Msum Msign MsignAt Mproduct Mvalue Mslope (upd Mexponent (v3.toNatClampNeg) ((Mexponent (Mone ((64 * v1) + v3).toNatClampNeg).toNatClampNeg) + (Mexponent (Mother ((64 * v1) + v3).toNatClampNeg).toNatClampNeg))) Mdrawn Mslopes Mfrom Mfactor Mthrown Mlength Mmodels Mopen Mat Mrows Mx) H := hP
            replace hD : va_D A (wM k aM Mestimate Munit Msort Mwidth Mmany Mreading Mvariance Mcovariance Mline Mformulas Mroot Mkind Mone Mother Msigns Mplace MleftOf MrightOf Mtype Msum Msign MsignAt Mproduct Mvalue Mslope (upd Mexponent (v3.toNatClampNeg) ((Mexponent (Mone ((64 * v1) + v3).toNatClampNeg).toNatClampNeg) + (Mexponent (Mother ((64 * v1) + v3).toNatClampNeg).toNatClampNeg))) Mdrawn Mslopes Mfrom Mfactor Mthrown Mlength Mmodels Mopen Mat Mrows Mx) := hD
            refine lv_goto (tgt := 151) hx hb dX7_laysExponents_112 (by decide) ?_
            refine lv_iinc (v := v3 + 1) (lv' := [(3, .int (v3 + 1)), (5, .int (Mkind ((64 * v1) + v3).toNatClampNeg)), (4, .int ((64 * v1) + v3)), (0, .ref (aM 0)), (1, .int v1), (2, .int v2)]) hx hb dX7_laysExponents_151 hl (k := 5) rfl rfl (by decide) rfl (fun ls hl => ?_)
            refine lv_goto (tgt := 2) hx hb dX7_laysExponents_154 (by decide) ?_
            exact ih _ _ h _ _ _ hP hD hS (lv_sub hl [3, 4, 5, 0] rfl)
        · replace h := sf_t c5 h
          refine lv_aload_n hx hb dX7_laysExponents_50 rfl (lv_at hl 2 rfl) ?_
          refine va_get (D := D) (ci := 7) (v := .ref (aM 26)) (C := RX7) (T := TX7) (N := 37) hx hb hts iX7 hown hK hP 0 rfl rfl 30 (by decide) f86 (fun _ h9 => h9) rfl dX7_laysExponents_51 ?_
          refine lv_iload_n hx hb dX7_laysExponents_54 rfl (lv_at hl 5 rfl) ?_
          refine lv_aload_n hx hb dX7_laysExponents_55 rfl (lv_at hl 2 rfl) ?_
          refine va_get (D := D) (ci := 7) (v := .ref (aM 2)) (C := RX7) (T := TX7) (N := 37) hx hb hts iX7 hown hK hP 0 rfl rfl 2 (by decide) f13 (fun _ h9 => h9) rfl dX7_laysExponents_56 ?_
          refine lv_iconst (v := 2) hx hb dX7_laysExponents_59 (by decide) ?_
          refine lv_aload_n hx hb dX7_laysExponents_60 rfl (lv_at hl 2 rfl) ?_
          refine va_get (D := D) (ci := 7) (v := .ref (aM 13)) (C := RX7) (T := TX7) (N := 37) hx hb hts iX7 hown hK hP 0 rfl rfl 15 (by decide) f46 (fun _ h9 => h9) rfl dX7_laysExponents_61 ?_
          refine lv_iload hx hb dX7_laysExponents_64 (lv_at hl 1 rfl) ?_
          obtain ⟨hi17, h⟩ := gi_inv h
          refine va_iald hx hb hK hP 13 0 rfl rfl hi17 dX7_laysExponents_66 ?_
          refine lv_imul hx hb dX7_laysExponents_67 ?_
          refine lv_iload_n hx hb dX7_laysExponents_68 rfl (lv_at hl 4 rfl) ?_
          refine lv_iadd hx hb dX7_laysExponents_69 ?_
          obtain ⟨hi18, h⟩ := gi_inv h
          refine va_iald hx hb hK hP 2 0 rfl rfl hi18 dX7_laysExponents_70 ?_
          obtain ⟨hi19, h⟩ := gi_inv h
          refine va_iast hx hb hK hP hD hS 26 0 rfl rfl hi19 dX7_laysExponents_71 (fun H locs hP hD hS => ?_)
          replace hP : va_P D vwCl (wM k aM Mestimate Munit Msort Mwidth Mmany Mreading Mvariance Mcovariance Mline Mformulas Mroot Mkind Mone Mother Msigns Mplace MleftOf MrightOf Mtype Msum Msign MsignAt Mproduct Mvalue Mslope (upd Mexponent (v3.toNatClampNeg) (Munit ((2 * (Mone ((64 * v1) + v3).toNatClampNeg)) + v2).toNatClampNeg)) Mdrawn Mslopes Mfrom Mfactor Mthrown Mlength Mmodels Mopen Mat Mrows Mx) H := hP
          replace hD : va_D A (wM k aM Mestimate Munit Msort Mwidth Mmany Mreading Mvariance Mcovariance Mline Mformulas Mroot Mkind Mone Mother Msigns Mplace MleftOf MrightOf Mtype Msum Msign MsignAt Mproduct Mvalue Mslope (upd Mexponent (v3.toNatClampNeg) (Munit ((2 * (Mone ((64 * v1) + v3).toNatClampNeg)) + v2).toNatClampNeg)) Mdrawn Mslopes Mfrom Mfactor Mthrown Mlength Mmodels Mopen Mat Mrows Mx) := hD
          refine lv_goto (tgt := 151) hx hb dX7_laysExponents_72 (by decide) ?_
          refine lv_iinc (v := v3 + 1) (lv' := [(3, .int (v3 + 1)), (5, .int (Mkind ((64 * v1) + v3).toNatClampNeg)), (4, .int ((64 * v1) + v3)), (0, .ref (aM 0)), (1, .int v1), (2, .int v2)]) hx hb dX7_laysExponents_151 hl (k := 5) rfl rfl (by decide) rfl (fun ls hl => ?_)
          refine lv_goto (tgt := 2) hx hb dX7_laysExponents_154 (by decide) ?_
          exact ih _ _ h _ _ _ hP hD hS (lv_sub hl [3, 4, 5, 0] rfl)
      · replace h := sf_t c4 h
        refine lv_aload_n hx hb dX7_laysExponents_34 rfl (lv_at hl 2 rfl) ?_
        refine va_get (D := D) (ci := 7) (v := .ref (aM 26)) (C := RX7) (T := TX7) (N := 37) hx hb hts iX7 hown hK hP 0 rfl rfl 30 (by decide) f86 (fun _ h9 => h9) rfl dX7_laysExponents_35 ?_
        refine lv_iload_n hx hb dX7_laysExponents_38 rfl (lv_at hl 5 rfl) ?_
        refine lv_iconst (v := 0) hx hb dX7_laysExponents_39 (by decide) ?_
        obtain ⟨hi20, h⟩ := gi_inv h
        refine va_iast hx hb hK hP hD hS 26 0 rfl rfl hi20 dX7_laysExponents_40 (fun H locs hP hD hS => ?_)
        replace hP : va_P D vwCl (wM k aM Mestimate Munit Msort Mwidth Mmany Mreading Mvariance Mcovariance Mline Mformulas Mroot Mkind Mone Mother Msigns Mplace MleftOf MrightOf Mtype Msum Msign MsignAt Mproduct Mvalue Mslope (upd Mexponent (v3.toNatClampNeg) 0) Mdrawn Mslopes Mfrom Mfactor Mthrown Mlength Mmodels Mopen Mat Mrows Mx) H := hP
        replace hD : va_D A (wM k aM Mestimate Munit Msort Mwidth Mmany Mreading Mvariance Mcovariance Mline Mformulas Mroot Mkind Mone Mother Msigns Mplace MleftOf MrightOf Mtype Msum Msign MsignAt Mproduct Mvalue Mslope (upd Mexponent (v3.toNatClampNeg) 0) Mdrawn Mslopes Mfrom Mfactor Mthrown Mlength Mmodels Mopen Mat Mrows Mx) := hD
        refine lv_goto (tgt := 151) hx hb dX7_laysExponents_41 (by decide) ?_
        refine lv_iinc (v := v3 + 1) (lv' := [(3, .int (v3 + 1)), (5, .int (Mkind ((64 * v1) + v3).toNatClampNeg)), (4, .int ((64 * v1) + v3)), (0, .ref (aM 0)), (1, .int v1), (2, .int v2)]) hx hb dX7_laysExponents_151 hl (k := 5) rfl rfl (by decide) rfl (fun ls hl => ?_)
        refine lv_goto (tgt := 2) hx hb dX7_laysExponents_154 (by decide) ?_
        exact ih _ _ h _ _ _ hP hD hS (lv_sub hl [3, 4, 5, 0] rfl)
  suffices main : ∀ (H : Heap) (locs : List Loc) (ls : Array Slot), va_P D vwCl (wM k aM Mestimate Munit Msort Mwidth Mmany Mreading Mvariance Mcovariance Mline Mformulas Mroot Mkind Mone Mother Msigns Mplace MleftOf MrightOf Mtype Msum Msign MsignAt Mproduct Mvalue Mslope Mexponent Mdrawn Mslopes Mfrom Mfactor Mthrown Mlength Mmodels Mopen Mat Mrows Mx) H → va_D A (wM k aM Mestimate Munit Msort Mwidth Mmany Mreading Mvariance Mcovariance Mline Mformulas Mroot Mkind Mone Mother Msigns Mplace MleftOf MrightOf Mtype Msum Msign MsignAt Mproduct Mvalue Mslope Mexponent Mdrawn Mslopes Mfrom Mfactor Mthrown Mlength Mmodels Mopen Mat Mrows Mx) → va_S A s.heap H locs → lv_has ls 6 [(0, .ref (aM 0)), (1, .int v1), (2, .int v2)] → W p l e rmX7_laysExponents s m args below meth c H locs 0 0 Q (F0 m 0 ls []) from main _ _ _ hP hD hS hl
  clear hP hD hS hl ls hAe
  intro H locs ls hP hD hS hl
  refine lv_iconst (v := 0) hx hb dX7_laysExponents_0 (by decide) ?_
  refine lv_istore_n (lv' := [(3, .int 0), (0, .ref (aM 0)), (1, .int v1), (2, .int v2)]) hx hb dX7_laysExponents_1 rfl hl (by decide) rfl (fun ls hl => ?_)
  refine LH_2 _ (fun Mexponent h H locs ls hP hD hS hl => ?_) _ _ _ h _ _ _ hP hD hS (lv_sub hl [1, 2, 3, 0] rfl)
  · skip
    have hP9 := hP
    have hD9 := hD
    have hS9 := hS
    subst hQ
    cases h
    exact W.vret hx hb hr (fun t ht hW => ⟨⟨(), rfl, trivial, by rw [ht]; exact hP9, va_K.moved hW.alike hK, hD9⟩, hS9.F ht⟩) hS9.2.2 dX7_laysExponents_157
def BX7_fault_86 (Munit : Nat → Int32) (Mformulas : Nat → Int32) (Mkind : Nat → Int32) (Mone : Nat → Int32) (Mother : Nat → Int32) (Msigns : Nat → Int32) (Mplace : Nat → Int32) (MleftOf : Nat → Int32) (MrightOf : Nat → Int32) (v1 : Int32) (K : Int32 → Int32 → Int32 → (Nat → Int32) → Option (Int32 × (Nat → Int32))) (E111 : Int32 → Int32 → (Nat → Int32) → Option (Int32 × (Nat → Int32))) (v2 : Int32) (v3 : Int32) (v4 : Int32) (v5 : Int32) (s0 : Int32) (Mexponent : Nat → Int32) : Option (Int32 × (Nat → Int32)) := (if s0 = 0 then K v2 v3 (v4 + 1) Mexponent else gi v5 576 (K (Mplace v5.toNatClampNeg) v3 (v4 + 1) Mexponent))
def BX7_fault_85 (Munit : Nat → Int32) (Mformulas : Nat → Int32) (Mkind : Nat → Int32) (Mone : Nat → Int32) (Mother : Nat → Int32) (Msigns : Nat → Int32) (Mplace : Nat → Int32) (MleftOf : Nat → Int32) (MrightOf : Nat → Int32) (v1 : Int32) (K : Int32 → Int32 → Int32 → (Nat → Int32) → Option (Int32 × (Nat → Int32))) (E111 : Int32 → Int32 → (Nat → Int32) → Option (Int32 × (Nat → Int32))) (v2 : Int32) (v3 : Int32) (v4 : Int32) (v5 : Int32) (Mexponent : Nat → Int32) : Option (Int32 × (Nat → Int32)) := BX7_fault_86 Munit Mformulas Mkind Mone Mother Msigns Mplace MleftOf MrightOf v1 (K) E111 v2 v3 v4 v5 0 Mexponent
def BX7_fault_81 (Munit : Nat → Int32) (Mformulas : Nat → Int32) (Mkind : Nat → Int32) (Mone : Nat → Int32) (Mother : Nat → Int32) (Msigns : Nat → Int32) (Mplace : Nat → Int32) (MleftOf : Nat → Int32) (MrightOf : Nat → Int32) (v1 : Int32) (K : Int32 → Int32 → Int32 → (Nat → Int32) → Option (Int32 × (Nat → Int32))) (E111 : Int32 → Int32 → (Nat → Int32) → Option (Int32 × (Nat → Int32))) (v2 : Int32) (v3 : Int32) (v4 : Int32) (v5 : Int32) (Mexponent : Nat → Int32) : Option (Int32 × (Nat → Int32)) := BX7_fault_86 Munit Mformulas Mkind Mone Mother Msigns Mplace MleftOf MrightOf v1 (K) E111 v2 v3 v4 v5 1 Mexponent
def LX7_fault_18 (Munit : Nat → Int32) (Mformulas : Nat → Int32) (Mkind : Nat → Int32) (Mone : Nat → Int32) (Mother : Nat → Int32) (Msigns : Nat → Int32) (Mplace : Nat → Int32) (MleftOf : Nat → Int32) (MrightOf : Nat → Int32) (v1 : Int32) (E111 : Int32 → Int32 → (Nat → Int32) → Option (Int32 × (Nat → Int32))) : Nat → Int32 → Int32 → Int32 → (Nat → Int32) → Option (Int32 × (Nat → Int32))
  | 0, _, _, _, _ => none
  | fuel + 1, v2, v3, v4, Mexponent => gi v1 9 ((if (Msigns v1.toNatClampNeg) ≤ v4 then E111 v2 v3 Mexponent else gi ((64 * v1) + v4) 576 (gi (MleftOf ((64 * v1) + v4).toNatClampNeg) 64 (gi ((64 * v1) + v4) 576 (gi (MrightOf ((64 * v1) + v4).toNatClampNeg) 64 ((if (Mexponent (MleftOf ((64 * v1) + v4).toNatClampNeg).toNatClampNeg) = (Mexponent (MrightOf ((64 * v1) + v4).toNatClampNeg).toNatClampNeg) then BX7_fault_85 Munit Mformulas Mkind Mone Mother Msigns Mplace MleftOf MrightOf v1 (LX7_fault_18 Munit Mformulas Mkind Mone Mother Msigns Mplace MleftOf MrightOf v1 E111 fuel) E111 v2 v3 v4 ((64 * v1) + v4) Mexponent else (if v2 = ((-1)) then BX7_fault_81 Munit Mformulas Mkind Mone Mother Msigns Mplace MleftOf MrightOf v1 (LX7_fault_18 Munit Mformulas Mkind Mone Mother Msigns Mplace MleftOf MrightOf v1 E111 fuel) E111 v2 v3 v4 ((64 * v1) + v4) Mexponent else gi ((64 * v1) + v4) 576 ((if v2 ≤ (Mplace ((64 * v1) + v4).toNatClampNeg) then BX7_fault_85 Munit Mformulas Mkind Mone Mother Msigns Mplace MleftOf MrightOf v1 (LX7_fault_18 Munit Mformulas Mkind Mone Mother Msigns Mplace MleftOf MrightOf v1 E111 fuel) E111 v2 v3 v4 ((64 * v1) + v4) Mexponent else BX7_fault_81 Munit Mformulas Mkind Mone Mother Msigns Mplace MleftOf MrightOf v1 (LX7_fault_18 Munit Mformulas Mkind Mone Mother Msigns Mplace MleftOf MrightOf v1 E111 fuel) E111 v2 v3 v4 ((64 * v1) + v4) Mexponent))))))))))
def LX7_fault_4 (Munit : Nat → Int32) (Mformulas : Nat → Int32) (Mkind : Nat → Int32) (Mone : Nat → Int32) (Mother : Nat → Int32) (Msigns : Nat → Int32) (Mplace : Nat → Int32) (MleftOf : Nat → Int32) (MrightOf : Nat → Int32) (v1 : Int32) (E117 : Int32 → (Nat → Int32) → Option (Int32 × (Nat → Int32))) : Nat → Int32 → Int32 → (Nat → Int32) → Option (Int32 × (Nat → Int32))
  | 0, _, _, _ => none
  | fuel + 1, v2, v3, Mexponent => (if 2 ≤ v3 then E117 v2 Mexponent else bnd1 (fX7_laysExponents v1 v3 Munit Mformulas Mkind Mone Mother Mexponent) (fun exponent_2 => LX7_fault_18 Munit Mformulas Mkind Mone Mother Msigns Mplace MleftOf MrightOf v1 (fun (v2 : Int32) (v3 : Int32) (Mexponent : Nat → Int32) => LX7_fault_4 Munit Mformulas Mkind Mone Mother Msigns Mplace MleftOf MrightOf v1 E117 fuel v2 (v3 + 1) Mexponent) 1000 v2 v3 0 exponent_2))
def fX7_fault (v1 : Int32) (Munit : Nat → Int32) (Mformulas : Nat → Int32) (Mkind : Nat → Int32) (Mone : Nat → Int32) (Mother : Nat → Int32) (Msigns : Nat → Int32) (Mplace : Nat → Int32) (MleftOf : Nat → Int32) (MrightOf : Nat → Int32) (Mexponent : Nat → Int32) : Option (Int32 × (Nat → Int32)) := LX7_fault_4 Munit Mformulas Mkind Mone Mother Msigns Mplace MleftOf MrightOf v1 (fun (v2 : Int32) (Mexponent : Nat → Int32) => some (v2, Mexponent)) 1000 ((-1)) 0 Mexponent
abbrev rmX7_fault : Room := { frames := 1, cells := 0, slots := 0, locals := 25 }
set_option maxHeartbeats 4000000 in
set_option maxRecDepth 100000 in
theorem met_X7_fault (l : Launch) (D : va_G) (k : Nat → ClassId)  (aM : Nat → Nat) (sz : Nat) (Mestimate : Nat → Int32) (Munit : Nat → Int32) (Msort : Nat → Int32) (Mwidth : Nat → Int32) (Mmany : Nat → Int32) (Mreading : Nat → Int32) (Mvariance : Nat → Int32) (Mcovariance : Nat → Int32) (Mline : Nat → Int32) (Mformulas : Nat → Int32) (Mroot : Nat → Int32) (Mkind : Nat → Int32) (Mone : Nat → Int32) (Mother : Nat → Int32) (Msigns : Nat → Int32) (Mplace : Nat → Int32) (MleftOf : Nat → Int32) (MrightOf : Nat → Int32) (Mtype : Nat → Int32) (Msum : Nat → Int32) (Msign : Nat → Int32) (MsignAt : Nat → Int32) (Mproduct : Nat → Int32) (Mvalue : Nat → Int64) (Mslope : Nat → Int64) (Mexponent : Nat → Int32) (Mdrawn : Nat → Int32) (Mslopes : Nat → Int64) (Mfrom : Nat → Int32) (Mfactor : Nat → Int32) (Mthrown : Int32) (Mlength : Int32) (Mmodels : Int32) (Mopen : Int32) (Mat : Int32) (Mrows : Int32) (Mx : Int32) (v1 : Int32) (r : Int32) (RMexponent : Nat → Int32) (h : fX7_fault v1 Munit Mformulas Mkind Mone Mother Msigns Mplace MleftOf MrightOf Mexponent = some (r, RMexponent)) : Met l yX7_fault wsX7_fault rmX7_fault (va_Pc [.ref (aM 0), .int v1] (PreW D k (wM k aM Mestimate Munit Msort Mwidth Mmany Mreading Mvariance Mcovariance Mline Mformulas Mroot Mkind Mone Mother Msigns Mplace MleftOf MrightOf Mtype Msum Msign MsignAt Mproduct Mvalue Mslope Mexponent Mdrawn Mslopes Mfrom Mfactor Mthrown Mlength Mmodels Mopen Mat Mrows Mx) sz)) (va_Qi (fun r9 (_ : Unit) => r9 = r) (fun _ t => PostW D k (va_A (wM k aM Mestimate Munit Msort Mwidth Mmany Mreading Mvariance Mcovariance Mline Mformulas Mroot Mkind Mone Mother Msigns Mplace MleftOf MrightOf Mtype Msum Msign MsignAt Mproduct Mvalue Mslope Mexponent Mdrawn Mslopes Mfrom Mfactor Mthrown Mlength Mmodels Mopen Mat Mrows Mx) sz) (wM k aM Mestimate Munit Msort Mwidth Mmany Mreading Mvariance Mcovariance Mline Mformulas Mroot Mkind Mone Mother Msigns Mplace MleftOf MrightOf Mtype Msum Msign MsignAt Mproduct Mvalue Mslope RMexponent Mdrawn Mslopes Mfrom Mfactor Mthrown Mlength Mmodels Mopen Mat Mrows Mx) t) (va_A (wM k aM Mestimate Munit Msort Mwidth Mmany Mreading Mvariance Mcovariance Mline Mformulas Mroot Mkind Mone Mother Msigns Mplace MleftOf MrightOf Mtype Msum Msign MsignAt Mproduct Mvalue Mslope Mexponent Mdrawn Mslopes Mfrom Mfactor Mthrown Mlength Mmodels Mopen Mat Mrows Mx) sz)) 0 0 (va_A (wM k aM Mestimate Munit Msort Mwidth Mmany Mreading Mvariance Mcovariance Mline Mformulas Mroot Mkind Mone Mother Msigns Mplace MleftOf MrightOf Mtype Msum Msign MsignAt Mproduct Mvalue Mslope Mexponent Mdrawn Mslopes Mfrom Mfactor Mthrown Mlength Mmodels Mopen Mat Mrows Mx) sz) := by
  refine Met.ofW (cc := cX7_fault) (maxL := 7) (ret := (some .int)) (by decide) rfl ?_
  intro p e s m args below meth c s₁ B hml hv
  obtain ⟨hav, hsz, hP, hK, hD0⟩ := hv
  have hx := B.exec
  have hb := B.bytes
  have hr := B.returns
  have hts := atoms_spec (ws := wsX7_fault) B.pre
  have hown : s.vm.findClass RX7 = some m.cls := findClass_of_methodNamed B.named
  have hlocks := B.notSynchronized
  subst hsz
  have hD := hD0.self (sz := s.heap.size)
  clear hD0
  generalize hAe : va_A (wM k aM Mestimate Munit Msort Mwidth Mmany Mreading Mvariance Mcovariance Mline Mformulas Mroot Mkind Mone Mother Msigns Mplace MleftOf MrightOf Mtype Msum Msign MsignAt Mproduct Mvalue Mslope Mexponent Mdrawn Mslopes Mfrom Mfactor Mthrown Mlength Mmodels Mopen Mat Mrows Mx) s.heap.size = A at hD ⊢
  have hA : ∀ q : Nat, s.heap.size ≤ q → A q := fun q h => by rw [← hAe]; exact Or.inr h
  have hS : va_S A s.heap s.heap [] := va_S.rf
  have hl := lv_entry ([.ref (aM 0), .int v1]) (n := 7) (Nat.le_of_ble_eq_true rfl)
  rw [show entryFrame m args 7 = entryFrame m ([.ref (aM 0), .int v1] : List Value).toArray 7 from by rw [hav], lg_entry_eq]
  generalize (lg_sl ([.ref (aM 0), .int v1]) ++ List.replicate (7 - (lg_sl ([.ref (aM 0), .int v1])).length) Slot.unset).toArray = ls at hl ⊢
  replace hl : lv_has ls 7 [(0, .ref (aM 0)), (1, .int v1)] := hl
  have f52 := hts (.fieldLink RX7 52 "UncertainBookModel" "signs" "[I") (by decide +kernel)
  have f55 := hts (.fieldLink RX7 55 "UncertainBookModel" "place" "[I") (by decide +kernel)
  have f58 := hts (.fieldLink RX7 58 "UncertainBookModel" "leftOf" "[I") (by decide +kernel)
  have f61 := hts (.fieldLink RX7 61 "UncertainBookModel" "rightOf" "[I") (by decide +kernel)
  have f86 := hts (.fieldLink RX7 86 "UncertainBookModel" "exponent" "[I") (by decide +kernel)
  have iX7 : ∀ w ∈ u_ws RX7 TX7 37, w ∈ wsX7_fault := by decide +kernel
  refine w_q (fun Q hQ => ?_)
  unfold fX7_fault at h
  show W p l e rmX7_fault s m args below meth c s.heap [] 0 0 Q (F0 m 0 ls [])
  have BH_86 : ∀ (K : Int32 → Int32 → Int32 → (Nat → Int32) → Option (Int32 × (Nat → Int32))) (hKK : ∀ (v2 : Int32) (v3 : Int32) (v4 : Int32) (Mexponent : Nat → Int32), K v2 v3 v4 Mexponent = some (r, RMexponent) → ∀ (H : Heap) (locs : List Loc) (ls : Array Slot), va_P D vwCl (wM k aM Mestimate Munit Msort Mwidth Mmany Mreading Mvariance Mcovariance Mline Mformulas Mroot Mkind Mone Mother Msigns Mplace MleftOf MrightOf Mtype Msum Msign MsignAt Mproduct Mvalue Mslope Mexponent Mdrawn Mslopes Mfrom Mfactor Mthrown Mlength Mmodels Mopen Mat Mrows Mx) H → va_D A (wM k aM Mestimate Munit Msort Mwidth Mmany Mreading Mvariance Mcovariance Mline Mformulas Mroot Mkind Mone Mother Msigns Mplace MleftOf MrightOf Mtype Msum Msign MsignAt Mproduct Mvalue Mslope Mexponent Mdrawn Mslopes Mfrom Mfactor Mthrown Mlength Mmodels Mopen Mat Mrows Mx) → va_S A s.heap H locs → lv_has ls 7 [(0, .ref (aM 0)), (1, .int v1), (2, .int v2), (3, .int v3), (4, .int v4)] → W p l e rmX7_fault s m args below meth c H locs 0 0 Q (F0 m 18 ls [])) (E111 : Int32 → Int32 → (Nat → Int32) → Option (Int32 × (Nat → Int32))) (hE111 : ∀ (v2 : Int32) (v3 : Int32) (Mexponent : Nat → Int32), E111 v2 v3 Mexponent = some (r, RMexponent) → ∀ (H : Heap) (locs : List Loc) (ls : Array Slot), va_P D vwCl (wM k aM Mestimate Munit Msort Mwidth Mmany Mreading Mvariance Mcovariance Mline Mformulas Mroot Mkind Mone Mother Msigns Mplace MleftOf MrightOf Mtype Msum Msign MsignAt Mproduct Mvalue Mslope Mexponent Mdrawn Mslopes Mfrom Mfactor Mthrown Mlength Mmodels Mopen Mat Mrows Mx) H → va_D A (wM k aM Mestimate Munit Msort Mwidth Mmany Mreading Mvariance Mcovariance Mline Mformulas Mroot Mkind Mone Mother Msigns Mplace MleftOf MrightOf Mtype Msum Msign MsignAt Mproduct Mvalue Mslope Mexponent Mdrawn Mslopes Mfrom Mfactor Mthrown Mlength Mmodels Mopen Mat Mrows Mx) → va_S A s.heap H locs → lv_has ls 7 [(0, .ref (aM 0)), (1, .int v1), (2, .int v2), (3, .int v3)] → W p l e rmX7_fault s m args below meth c H locs 0 0 Q (F0 m 111 ls [])) (v2 : Int32) (v3 : Int32) (v4 : Int32) (v5 : Int32) (s0 : Int32) (Mexponent : Nat → Int32), BX7_fault_86 Munit Mformulas Mkind Mone Mother Msigns Mplace MleftOf MrightOf v1 K E111 v2 v3 v4 v5 s0 Mexponent = some (r, RMexponent) → ∀ (H : Heap) (locs : List Loc) (ls : Array Slot), va_P D vwCl (wM k aM Mestimate Munit Msort Mwidth Mmany Mreading Mvariance Mcovariance Mline Mformulas Mroot Mkind Mone Mother Msigns Mplace MleftOf MrightOf Mtype Msum Msign MsignAt Mproduct Mvalue Mslope Mexponent Mdrawn Mslopes Mfrom Mfactor Mthrown Mlength Mmodels Mopen Mat Mrows Mx) H → va_D A (wM k aM Mestimate Munit Msort Mwidth Mmany Mreading Mvariance Mcovariance Mline Mformulas Mroot Mkind Mone Mother Msigns Mplace MleftOf MrightOf Mtype Msum Msign MsignAt Mproduct Mvalue Mslope Mexponent Mdrawn Mslopes Mfrom Mfactor Mthrown Mlength Mmodels Mopen Mat Mrows Mx) → va_S A s.heap H locs → lv_has ls 7 [(0, .ref (aM 0)), (1, .int v1), (2, .int v2), (3, .int v3), (4, .int v4), (5, .int v5)] → W p l e rmX7_fault s m args below meth c H locs 0 0 Q (F0 m 86 ls [.int s0]) := by
    intro K hKK E111 hE111 v2 v3 v4 v5 s0 Mexponent h H locs ls hP hD hS hl
    unfold BX7_fault_86 at h
    refine lv_istore (lv' := [(6, .int s0), (0, .ref (aM 0)), (1, .int v1), (2, .int v2), (3, .int v3), (4, .int v4), (5, .int v5)]) hx hb dX7_fault_86 hl (by decide) rfl (fun ls hl => ?_)
    refine lv_iload hx hb dX7_fault_88 (lv_at hl 0 rfl) ?_
    refine lv_if_eq (tgt := 103) hx hb dX7_fault_90 (by decide) (fun c10 => ?_) (fun c10 => ?_)
    · replace h := sf_t c10 h
      refine lv_iload_n hx hb dX7_fault_103 rfl (lv_at hl 3 rfl) ?_
      refine lv_istore_n (lv' := [(2, .int v2), (6, .int s0), (0, .ref (aM 0)), (1, .int v1), (3, .int v3), (4, .int v4), (5, .int v5)]) hx hb dX7_fault_104 rfl hl (by decide) rfl (fun ls hl => ?_)
      refine lv_iinc (v := v4 + 1) (lv' := [(4, .int (v4 + 1)), (2, .int v2), (6, .int s0), (0, .ref (aM 0)), (1, .int v1), (3, .int v3), (5, .int v5)]) hx hb dX7_fault_105 hl (k := 5) rfl rfl (by decide) rfl (fun ls hl => ?_)
      refine lv_goto (tgt := 18) hx hb dX7_fault_108 (by decide) ?_
      exact hKK _ _ _ _ h _ _ _ hP hD hS (lv_sub hl [3, 4, 1, 5, 0] rfl)
    · replace h := sf_f c10 h
      refine lv_aload_n hx hb dX7_fault_93 rfl (lv_at hl 1 rfl) ?_
      refine va_get (D := D) (ci := 7) (v := .ref (aM 16)) (C := RX7) (T := TX7) (N := 37) hx hb hts iX7 hown hK hP 0 rfl rfl 18 (by decide) f55 (fun _ h9 => h9) rfl dX7_fault_94 ?_
      refine lv_iload hx hb dX7_fault_97 (lv_at hl 6 rfl) ?_
      obtain ⟨hi11, h⟩ := gi_inv h
      refine va_iald hx hb hK hP 16 0 rfl rfl hi11 dX7_fault_99 ?_
      refine lv_goto (tgt := 104) hx hb dX7_fault_100 (by decide) ?_
      refine lv_istore_n (lv' := [(2, .int (Mplace v5.toNatClampNeg)), (6, .int s0), (0, .ref (aM 0)), (1, .int v1), (3, .int v3), (4, .int v4), (5, .int v5)]) hx hb dX7_fault_104 rfl hl (by decide) rfl (fun ls hl => ?_)
      refine lv_iinc (v := v4 + 1) (lv' := [(4, .int (v4 + 1)), (2, .int (Mplace v5.toNatClampNeg)), (6, .int s0), (0, .ref (aM 0)), (1, .int v1), (3, .int v3), (5, .int v5)]) hx hb dX7_fault_105 hl (k := 5) rfl rfl (by decide) rfl (fun ls hl => ?_)
      refine lv_goto (tgt := 18) hx hb dX7_fault_108 (by decide) ?_
      exact hKK _ _ _ _ h _ _ _ hP hD hS (lv_sub hl [3, 4, 1, 5, 0] rfl)
  have BH_85 : ∀ (K : Int32 → Int32 → Int32 → (Nat → Int32) → Option (Int32 × (Nat → Int32))) (hKK : ∀ (v2 : Int32) (v3 : Int32) (v4 : Int32) (Mexponent : Nat → Int32), K v2 v3 v4 Mexponent = some (r, RMexponent) → ∀ (H : Heap) (locs : List Loc) (ls : Array Slot), va_P D vwCl (wM k aM Mestimate Munit Msort Mwidth Mmany Mreading Mvariance Mcovariance Mline Mformulas Mroot Mkind Mone Mother Msigns Mplace MleftOf MrightOf Mtype Msum Msign MsignAt Mproduct Mvalue Mslope Mexponent Mdrawn Mslopes Mfrom Mfactor Mthrown Mlength Mmodels Mopen Mat Mrows Mx) H → va_D A (wM k aM Mestimate Munit Msort Mwidth Mmany Mreading Mvariance Mcovariance Mline Mformulas Mroot Mkind Mone Mother Msigns Mplace MleftOf MrightOf Mtype Msum Msign MsignAt Mproduct Mvalue Mslope Mexponent Mdrawn Mslopes Mfrom Mfactor Mthrown Mlength Mmodels Mopen Mat Mrows Mx) → va_S A s.heap H locs → lv_has ls 7 [(0, .ref (aM 0)), (1, .int v1), (2, .int v2), (3, .int v3), (4, .int v4)] → W p l e rmX7_fault s m args below meth c H locs 0 0 Q (F0 m 18 ls [])) (E111 : Int32 → Int32 → (Nat → Int32) → Option (Int32 × (Nat → Int32))) (hE111 : ∀ (v2 : Int32) (v3 : Int32) (Mexponent : Nat → Int32), E111 v2 v3 Mexponent = some (r, RMexponent) → ∀ (H : Heap) (locs : List Loc) (ls : Array Slot), va_P D vwCl (wM k aM Mestimate Munit Msort Mwidth Mmany Mreading Mvariance Mcovariance Mline Mformulas Mroot Mkind Mone Mother Msigns Mplace MleftOf MrightOf Mtype Msum Msign MsignAt Mproduct Mvalue Mslope Mexponent Mdrawn Mslopes Mfrom Mfactor Mthrown Mlength Mmodels Mopen Mat Mrows Mx) H → va_D A (wM k aM Mestimate Munit Msort Mwidth Mmany Mreading Mvariance Mcovariance Mline Mformulas Mroot Mkind Mone Mother Msigns Mplace MleftOf MrightOf Mtype Msum Msign MsignAt Mproduct Mvalue Mslope Mexponent Mdrawn Mslopes Mfrom Mfactor Mthrown Mlength Mmodels Mopen Mat Mrows Mx) → va_S A s.heap H locs → lv_has ls 7 [(0, .ref (aM 0)), (1, .int v1), (2, .int v2), (3, .int v3)] → W p l e rmX7_fault s m args below meth c H locs 0 0 Q (F0 m 111 ls [])) (v2 : Int32) (v3 : Int32) (v4 : Int32) (v5 : Int32) (Mexponent : Nat → Int32), BX7_fault_85 Munit Mformulas Mkind Mone Mother Msigns Mplace MleftOf MrightOf v1 K E111 v2 v3 v4 v5 Mexponent = some (r, RMexponent) → ∀ (H : Heap) (locs : List Loc) (ls : Array Slot), va_P D vwCl (wM k aM Mestimate Munit Msort Mwidth Mmany Mreading Mvariance Mcovariance Mline Mformulas Mroot Mkind Mone Mother Msigns Mplace MleftOf MrightOf Mtype Msum Msign MsignAt Mproduct Mvalue Mslope Mexponent Mdrawn Mslopes Mfrom Mfactor Mthrown Mlength Mmodels Mopen Mat Mrows Mx) H → va_D A (wM k aM Mestimate Munit Msort Mwidth Mmany Mreading Mvariance Mcovariance Mline Mformulas Mroot Mkind Mone Mother Msigns Mplace MleftOf MrightOf Mtype Msum Msign MsignAt Mproduct Mvalue Mslope Mexponent Mdrawn Mslopes Mfrom Mfactor Mthrown Mlength Mmodels Mopen Mat Mrows Mx) → va_S A s.heap H locs → lv_has ls 7 [(0, .ref (aM 0)), (1, .int v1), (2, .int v2), (3, .int v3), (4, .int v4), (5, .int v5)] → W p l e rmX7_fault s m args below meth c H locs 0 0 Q (F0 m 85 ls []) := by
    intro K hKK E111 hE111 v2 v3 v4 v5 Mexponent h H locs ls hP hD hS hl
    unfold BX7_fault_85 at h
    refine lv_iconst (v := 0) hx hb dX7_fault_85 (by decide) ?_
    exact BH_86 _ hKK _ hE111 _ _ _ _ _ _ h _ _ _ hP hD hS (lv_sub hl [0, 1, 2, 3, 4, 5] rfl)
  have BH_81 : ∀ (K : Int32 → Int32 → Int32 → (Nat → Int32) → Option (Int32 × (Nat → Int32))) (hKK : ∀ (v2 : Int32) (v3 : Int32) (v4 : Int32) (Mexponent : Nat → Int32), K v2 v3 v4 Mexponent = some (r, RMexponent) → ∀ (H : Heap) (locs : List Loc) (ls : Array Slot), va_P D vwCl (wM k aM Mestimate Munit Msort Mwidth Mmany Mreading Mvariance Mcovariance Mline Mformulas Mroot Mkind Mone Mother Msigns Mplace MleftOf MrightOf Mtype Msum Msign MsignAt Mproduct Mvalue Mslope Mexponent Mdrawn Mslopes Mfrom Mfactor Mthrown Mlength Mmodels Mopen Mat Mrows Mx) H → va_D A (wM k aM Mestimate Munit Msort Mwidth Mmany Mreading Mvariance Mcovariance Mline Mformulas Mroot Mkind Mone Mother Msigns Mplace MleftOf MrightOf Mtype Msum Msign MsignAt Mproduct Mvalue Mslope Mexponent Mdrawn Mslopes Mfrom Mfactor Mthrown Mlength Mmodels Mopen Mat Mrows Mx) → va_S A s.heap H locs → lv_has ls 7 [(0, .ref (aM 0)), (1, .int v1), (2, .int v2), (3, .int v3), (4, .int v4)] → W p l e rmX7_fault s m args below meth c H locs 0 0 Q (F0 m 18 ls [])) (E111 : Int32 → Int32 → (Nat → Int32) → Option (Int32 × (Nat → Int32))) (hE111 : ∀ (v2 : Int32) (v3 : Int32) (Mexponent : Nat → Int32), E111 v2 v3 Mexponent = some (r, RMexponent) → ∀ (H : Heap) (locs : List Loc) (ls : Array Slot), va_P D vwCl (wM k aM Mestimate Munit Msort Mwidth Mmany Mreading Mvariance Mcovariance Mline Mformulas Mroot Mkind Mone Mother Msigns Mplace MleftOf MrightOf Mtype Msum Msign MsignAt Mproduct Mvalue Mslope Mexponent Mdrawn Mslopes Mfrom Mfactor Mthrown Mlength Mmodels Mopen Mat Mrows Mx) H → va_D A (wM k aM Mestimate Munit Msort Mwidth Mmany Mreading Mvariance Mcovariance Mline Mformulas Mroot Mkind Mone Mother Msigns Mplace MleftOf MrightOf Mtype Msum Msign MsignAt Mproduct Mvalue Mslope Mexponent Mdrawn Mslopes Mfrom Mfactor Mthrown Mlength Mmodels Mopen Mat Mrows Mx) → va_S A s.heap H locs → lv_has ls 7 [(0, .ref (aM 0)), (1, .int v1), (2, .int v2), (3, .int v3)] → W p l e rmX7_fault s m args below meth c H locs 0 0 Q (F0 m 111 ls [])) (v2 : Int32) (v3 : Int32) (v4 : Int32) (v5 : Int32) (Mexponent : Nat → Int32), BX7_fault_81 Munit Mformulas Mkind Mone Mother Msigns Mplace MleftOf MrightOf v1 K E111 v2 v3 v4 v5 Mexponent = some (r, RMexponent) → ∀ (H : Heap) (locs : List Loc) (ls : Array Slot), va_P D vwCl (wM k aM Mestimate Munit Msort Mwidth Mmany Mreading Mvariance Mcovariance Mline Mformulas Mroot Mkind Mone Mother Msigns Mplace MleftOf MrightOf Mtype Msum Msign MsignAt Mproduct Mvalue Mslope Mexponent Mdrawn Mslopes Mfrom Mfactor Mthrown Mlength Mmodels Mopen Mat Mrows Mx) H → va_D A (wM k aM Mestimate Munit Msort Mwidth Mmany Mreading Mvariance Mcovariance Mline Mformulas Mroot Mkind Mone Mother Msigns Mplace MleftOf MrightOf Mtype Msum Msign MsignAt Mproduct Mvalue Mslope Mexponent Mdrawn Mslopes Mfrom Mfactor Mthrown Mlength Mmodels Mopen Mat Mrows Mx) → va_S A s.heap H locs → lv_has ls 7 [(0, .ref (aM 0)), (1, .int v1), (2, .int v2), (3, .int v3), (4, .int v4), (5, .int v5)] → W p l e rmX7_fault s m args below meth c H locs 0 0 Q (F0 m 81 ls []) := by
    intro K hKK E111 hE111 v2 v3 v4 v5 Mexponent h H locs ls hP hD hS hl
    unfold BX7_fault_81 at h
    refine lv_iconst (v := 1) hx hb dX7_fault_81 (by decide) ?_
    refine lv_goto (tgt := 86) hx hb dX7_fault_82 (by decide) ?_
    exact BH_86 _ hKK _ hE111 _ _ _ _ _ _ h _ _ _ hP hD hS (lv_sub hl [0, 1, 2, 3, 4, 5] rfl)
  have LH_18 : ∀ (E111 : Int32 → Int32 → (Nat → Int32) → Option (Int32 × (Nat → Int32))) (hE111 : ∀ (v2 : Int32) (v3 : Int32) (Mexponent : Nat → Int32), E111 v2 v3 Mexponent = some (r, RMexponent) → ∀ (H : Heap) (locs : List Loc) (ls : Array Slot), va_P D vwCl (wM k aM Mestimate Munit Msort Mwidth Mmany Mreading Mvariance Mcovariance Mline Mformulas Mroot Mkind Mone Mother Msigns Mplace MleftOf MrightOf Mtype Msum Msign MsignAt Mproduct Mvalue Mslope Mexponent Mdrawn Mslopes Mfrom Mfactor Mthrown Mlength Mmodels Mopen Mat Mrows Mx) H → va_D A (wM k aM Mestimate Munit Msort Mwidth Mmany Mreading Mvariance Mcovariance Mline Mformulas Mroot Mkind Mone Mother Msigns Mplace MleftOf MrightOf Mtype Msum Msign MsignAt Mproduct Mvalue Mslope Mexponent Mdrawn Mslopes Mfrom Mfactor Mthrown Mlength Mmodels Mopen Mat Mrows Mx) → va_S A s.heap H locs → lv_has ls 7 [(0, .ref (aM 0)), (1, .int v1), (2, .int v2), (3, .int v3)] → W p l e rmX7_fault s m args below meth c H locs 0 0 Q (F0 m 111 ls [])) (n : Nat) (v2 : Int32) (v3 : Int32) (v4 : Int32) (Mexponent : Nat → Int32), LX7_fault_18 Munit Mformulas Mkind Mone Mother Msigns Mplace MleftOf MrightOf v1 E111 n v2 v3 v4 Mexponent = some (r, RMexponent) → ∀ (H : Heap) (locs : List Loc) (ls : Array Slot), va_P D vwCl (wM k aM Mestimate Munit Msort Mwidth Mmany Mreading Mvariance Mcovariance Mline Mformulas Mroot Mkind Mone Mother Msigns Mplace MleftOf MrightOf Mtype Msum Msign MsignAt Mproduct Mvalue Mslope Mexponent Mdrawn Mslopes Mfrom Mfactor Mthrown Mlength Mmodels Mopen Mat Mrows Mx) H → va_D A (wM k aM Mestimate Munit Msort Mwidth Mmany Mreading Mvariance Mcovariance Mline Mformulas Mroot Mkind Mone Mother Msigns Mplace MleftOf MrightOf Mtype Msum Msign MsignAt Mproduct Mvalue Mslope Mexponent Mdrawn Mslopes Mfrom Mfactor Mthrown Mlength Mmodels Mopen Mat Mrows Mx) → va_S A s.heap H locs → lv_has ls 7 [(0, .ref (aM 0)), (1, .int v1), (2, .int v2), (3, .int v3), (4, .int v4)] → W p l e rmX7_fault s m args below meth c H locs 0 0 Q (F0 m 18 ls []) := by
    intro E111 hE111 n
    induction n with
    | zero => intro v2 v3 v4 Mexponent h; simp [LX7_fault_18] at h
    | succ n ih =>
    intro v2 v3 v4 Mexponent h H locs ls hP hD hS hl
    rw [LX7_fault_18] at h
    refine lv_iload hx hb dX7_fault_18 (lv_at hl 4 rfl) ?_
    refine lv_aload_n hx hb dX7_fault_20 rfl (lv_at hl 0 rfl) ?_
    refine va_get (D := D) (ci := 7) (v := .ref (aM 15)) (C := RX7) (T := TX7) (N := 37) hx hb hts iX7 hown hK hP 0 rfl rfl 17 (by decide) f52 (fun _ h9 => h9) rfl dX7_fault_21 ?_
    refine lv_iload_n hx hb dX7_fault_24 rfl (lv_at hl 1 rfl) ?_
    obtain ⟨hi3, h⟩ := gi_inv h
    refine va_iald hx hb hK hP 15 0 rfl rfl hi3 dX7_fault_25 ?_
    refine lv_icmp_ge (tgt := 111) hx hb dX7_fault_26 (by decide) (fun c4 => ?_) (fun c4 => ?_)
    · replace h := sf_t c4 h
      exact hE111 _ _ _ h _ _ _ hP hD hS (lv_sub hl [0, 1, 2, 3] rfl)
    · replace h := sf_f c4 h
      refine lv_bipush (v := 64) hx hb dX7_fault_29 (by decide) ?_
      refine lv_iload_n hx hb dX7_fault_31 rfl (lv_at hl 1 rfl) ?_
      refine lv_imul hx hb dX7_fault_32 ?_
      refine lv_iload hx hb dX7_fault_33 (lv_at hl 4 rfl) ?_
      refine lv_iadd hx hb dX7_fault_35 ?_
      refine lv_istore (lv' := [(5, .int ((64 * v1) + v4)), (0, .ref (aM 0)), (1, .int v1), (2, .int v2), (3, .int v3), (4, .int v4)]) hx hb dX7_fault_36 hl (by decide) rfl (fun ls hl => ?_)
      refine lv_aload_n hx hb dX7_fault_38 rfl (lv_at hl 1 rfl) ?_
      refine va_get (D := D) (ci := 7) (v := .ref (aM 26)) (C := RX7) (T := TX7) (N := 37) hx hb hts iX7 hown hK hP 0 rfl rfl 30 (by decide) f86 (fun _ h9 => h9) rfl dX7_fault_39 ?_
      refine lv_aload_n hx hb dX7_fault_42 rfl (lv_at hl 1 rfl) ?_
      refine va_get (D := D) (ci := 7) (v := .ref (aM 17)) (C := RX7) (T := TX7) (N := 37) hx hb hts iX7 hown hK hP 0 rfl rfl 19 (by decide) f58 (fun _ h9 => h9) rfl dX7_fault_43 ?_
      refine lv_iload hx hb dX7_fault_46 (lv_at hl 0 rfl) ?_
      obtain ⟨hi5, h⟩ := gi_inv h
      refine va_iald hx hb hK hP 17 0 rfl rfl hi5 dX7_fault_48 ?_
      obtain ⟨hi6, h⟩ := gi_inv h
      refine va_iald hx hb hK hP 26 0 rfl rfl hi6 dX7_fault_49 ?_
      refine lv_aload_n hx hb dX7_fault_50 rfl (lv_at hl 1 rfl) ?_
      refine va_get (D := D) (ci := 7) (v := .ref (aM 26)) (C := RX7) (T := TX7) (N := 37) hx hb hts iX7 hown hK hP 0 rfl rfl 30 (by decide) f86 (fun _ h9 => h9) rfl dX7_fault_51 ?_
      refine lv_aload_n hx hb dX7_fault_54 rfl (lv_at hl 1 rfl) ?_
      refine va_get (D := D) (ci := 7) (v := .ref (aM 18)) (C := RX7) (T := TX7) (N := 37) hx hb hts iX7 hown hK hP 0 rfl rfl 20 (by decide) f61 (fun _ h9 => h9) rfl dX7_fault_55 ?_
      refine lv_iload hx hb dX7_fault_58 (lv_at hl 0 rfl) ?_
      obtain ⟨hi7, h⟩ := gi_inv h
      refine va_iald hx hb hK hP 18 0 rfl rfl hi7 dX7_fault_60 ?_
      obtain ⟨hi8, h⟩ := gi_inv h
      refine va_iald hx hb hK hP 26 0 rfl rfl hi8 dX7_fault_61 ?_
      refine lv_icmp_eq (tgt := 85) hx hb dX7_fault_62 (by decide) (fun c9 => ?_) (fun c9 => ?_)
      · replace h := sf_t c9 h
        exact BH_85 _ ih _ hE111 _ _ _ _ _ h _ _ _ hP hD hS (lv_sub hl [1, 2, 3, 4, 5, 0] rfl)
      · replace h := sf_f c9 h
        refine lv_iload_n hx hb dX7_fault_65 rfl (lv_at hl 3 rfl) ?_
        refine lv_iconst (v := -1) hx hb dX7_fault_66 (by decide) ?_
        refine lv_icmp_eq (tgt := 81) hx hb dX7_fault_67 (by decide) (fun c12 => ?_) (fun c12 => ?_)
        · replace h := sf_t c12 h
          exact BH_81 _ ih _ hE111 _ _ _ _ _ h _ _ _ hP hD hS (lv_sub hl [1, 2, 3, 4, 5, 0] rfl)
        · replace h := sf_f c12 h
          refine lv_aload_n hx hb dX7_fault_70 rfl (lv_at hl 1 rfl) ?_
          refine va_get (D := D) (ci := 7) (v := .ref (aM 16)) (C := RX7) (T := TX7) (N := 37) hx hb hts iX7 hown hK hP 0 rfl rfl 18 (by decide) f55 (fun _ h9 => h9) rfl dX7_fault_71 ?_
          refine lv_iload hx hb dX7_fault_74 (lv_at hl 0 rfl) ?_
          obtain ⟨hi13, h⟩ := gi_inv h
          refine va_iald hx hb hK hP 16 0 rfl rfl hi13 dX7_fault_76 ?_
          refine lv_iload_n hx hb dX7_fault_77 rfl (lv_at hl 3 rfl) ?_
          refine lv_icmp_ge (tgt := 85) hx hb dX7_fault_78 (by decide) (fun c14 => ?_) (fun c14 => ?_)
          · replace h := sf_t c14 h
            exact BH_85 _ ih _ hE111 _ _ _ _ _ h _ _ _ hP hD hS (lv_sub hl [1, 2, 3, 4, 5, 0] rfl)
          · replace h := sf_f c14 h
            exact BH_81 _ ih _ hE111 _ _ _ _ _ h _ _ _ hP hD hS (lv_sub hl [1, 2, 3, 4, 5, 0] rfl)
  have LH_4 : ∀ (E117 : Int32 → (Nat → Int32) → Option (Int32 × (Nat → Int32))) (hE117 : ∀ (v2 : Int32) (Mexponent : Nat → Int32), E117 v2 Mexponent = some (r, RMexponent) → ∀ (H : Heap) (locs : List Loc) (ls : Array Slot), va_P D vwCl (wM k aM Mestimate Munit Msort Mwidth Mmany Mreading Mvariance Mcovariance Mline Mformulas Mroot Mkind Mone Mother Msigns Mplace MleftOf MrightOf Mtype Msum Msign MsignAt Mproduct Mvalue Mslope Mexponent Mdrawn Mslopes Mfrom Mfactor Mthrown Mlength Mmodels Mopen Mat Mrows Mx) H → va_D A (wM k aM Mestimate Munit Msort Mwidth Mmany Mreading Mvariance Mcovariance Mline Mformulas Mroot Mkind Mone Mother Msigns Mplace MleftOf MrightOf Mtype Msum Msign MsignAt Mproduct Mvalue Mslope Mexponent Mdrawn Mslopes Mfrom Mfactor Mthrown Mlength Mmodels Mopen Mat Mrows Mx) → va_S A s.heap H locs → lv_has ls 7 [(2, .int v2)] → W p l e rmX7_fault s m args below meth c H locs 0 0 Q (F0 m 117 ls [])) (n : Nat) (v2 : Int32) (v3 : Int32) (Mexponent : Nat → Int32), LX7_fault_4 Munit Mformulas Mkind Mone Mother Msigns Mplace MleftOf MrightOf v1 E117 n v2 v3 Mexponent = some (r, RMexponent) → ∀ (H : Heap) (locs : List Loc) (ls : Array Slot), va_P D vwCl (wM k aM Mestimate Munit Msort Mwidth Mmany Mreading Mvariance Mcovariance Mline Mformulas Mroot Mkind Mone Mother Msigns Mplace MleftOf MrightOf Mtype Msum Msign MsignAt Mproduct Mvalue Mslope Mexponent Mdrawn Mslopes Mfrom Mfactor Mthrown Mlength Mmodels Mopen Mat Mrows Mx) H → va_D A (wM k aM Mestimate Munit Msort Mwidth Mmany Mreading Mvariance Mcovariance Mline Mformulas Mroot Mkind Mone Mother Msigns Mplace MleftOf MrightOf Mtype Msum Msign MsignAt Mproduct Mvalue Mslope Mexponent Mdrawn Mslopes Mfrom Mfactor Mthrown Mlength Mmodels Mopen Mat Mrows Mx) → va_S A s.heap H locs → lv_has ls 7 [(0, .ref (aM 0)), (1, .int v1), (2, .int v2), (3, .int v3)] → W p l e rmX7_fault s m args below meth c H locs 0 0 Q (F0 m 4 ls []) := by
    intro E117 hE117 n
    induction n with
    | zero => intro v2 v3 Mexponent h; simp [LX7_fault_4] at h
    | succ n ih =>
    intro v2 v3 Mexponent h H locs ls hP hD hS hl
    rw [LX7_fault_4] at h
    refine lv_iload_n hx hb dX7_fault_4 rfl (lv_at hl 3 rfl) ?_
    refine lv_iconst (v := 2) hx hb dX7_fault_5 (by decide) ?_
    refine lv_icmp_ge (tgt := 117) hx hb dX7_fault_6 (by decide) (fun c1 => ?_) (fun c1 => ?_)
    · replace h := sf_t c1 h
      exact hE117 _ _ h _ _ _ hP hD hS (lv_sub hl [2] rfl)
    · replace h := sf_f c1 h
      refine lv_aload_n hx hb dX7_fault_9 rfl (lv_at hl 0 rfl) ?_
      refine lv_iload_n hx hb dX7_fault_10 rfl (lv_at hl 1 rfl) ?_
      refine lv_iload_n hx hb dX7_fault_11 rfl (lv_at hl 3 rfl) ?_
      obtain ⟨exponent_2, hc2, h⟩ := bnd1_inv h
      have hFc := va_free (wc := (wM k aM Mestimate Munit Msort Mwidth Mmany Mreading Mvariance Mcovariance Mline Mformulas Mroot Mkind Mone Mother Msigns Mplace MleftOf MrightOf Mtype Msum Msign MsignAt Mproduct Mvalue Mslope Mexponent Mdrawn Mslopes Mfrom Mfactor Mthrown Mlength Mmodels Mopen Mat Mrows Mx)) hD hS hA [0, 1, 2, 3, 4, 5, 6, 7, 8, 9, 10, 11, 12, 13, 14, 15, 16, 17, 18, 19, 20, 21, 22, 23, 24, 25, 26, 27, 28, 29, 30] rfl
      refine xc_v (va_runV (As := [.int v1, .int v3]) (rest := []) ⟨hx, hb, hml, hown, hts⟩ (met_X7_laysExponents l D k  aM H.size Mestimate Munit Msort Mwidth Mmany Mreading Mvariance Mcovariance Mline Mformulas Mroot Mkind Mone Mother Msigns Mplace MleftOf MrightOf Mtype Msum Msign MsignAt Mproduct Mvalue Mslope Mexponent Mdrawn Mslopes Mfrom Mfactor Mthrown Mlength Mmodels Mopen Mat Mrows Mx v1 v3 exponent_2 hc2) (cwV 2 hts gX7_fault_X7_laysExponents rfl rfl rfl (by decide +kernel) ⟨Nat.le_of_ble_eq_true rfl, Nat.le_of_ble_eq_true rfl⟩) ⟨pw_blind, va_recv hK hP (ci := 7) (q0 := 0) rfl rfl, pw_start hP hK hD⟩ rfl rfl hl.1 rfl (lv_room (Nat.le_of_ble_eq_true rfl)) dX7_fault_12 ⟨Nat.zero_le _, Nat.zero_le _⟩) hS hFc (fun H1 locs hP1 hD1 hk1 hS => ?_)
      obtain ⟨hP, hD⟩ := vj_all hFc hP1 hD1
      clear hP1 hD1 hk1 hFc
      generalize H1 = H at hP hS ⊢
      refine lv_iconst (v := 0) hx hb dX7_fault_15 (by decide) ?_
      refine lv_istore (lv' := [(4, .int 0), (0, .ref (aM 0)), (1, .int v1), (2, .int v2), (3, .int v3)]) hx hb dX7_fault_16 hl (by decide) rfl (fun ls hl => ?_)
      refine LH_18 _ (fun v2 v3 Mexponent h H locs ls hP hD hS hl => ?_) _ _ _ _ _ h _ _ _ hP hD hS (lv_sub hl [1, 2, 3, 4, 0] rfl)
      · skip
        refine lv_iinc (v := v3 + 1) (lv' := [(3, .int (v3 + 1)), (0, .ref (aM 0)), (1, .int v1), (2, .int v2)]) hx hb dX7_fault_111 hl (k := 3) rfl rfl (by decide) rfl (fun ls hl => ?_)
        refine lv_goto (tgt := 4) hx hb dX7_fault_114 (by decide) ?_
        exact ih _ _ _ h _ _ _ hP hD hS (lv_sub hl [1, 2, 3, 0] rfl)
  suffices main : ∀ (H : Heap) (locs : List Loc) (ls : Array Slot), va_P D vwCl (wM k aM Mestimate Munit Msort Mwidth Mmany Mreading Mvariance Mcovariance Mline Mformulas Mroot Mkind Mone Mother Msigns Mplace MleftOf MrightOf Mtype Msum Msign MsignAt Mproduct Mvalue Mslope Mexponent Mdrawn Mslopes Mfrom Mfactor Mthrown Mlength Mmodels Mopen Mat Mrows Mx) H → va_D A (wM k aM Mestimate Munit Msort Mwidth Mmany Mreading Mvariance Mcovariance Mline Mformulas Mroot Mkind Mone Mother Msigns Mplace MleftOf MrightOf Mtype Msum Msign MsignAt Mproduct Mvalue Mslope Mexponent Mdrawn Mslopes Mfrom Mfactor Mthrown Mlength Mmodels Mopen Mat Mrows Mx) → va_S A s.heap H locs → lv_has ls 7 [(0, .ref (aM 0)), (1, .int v1)] → W p l e rmX7_fault s m args below meth c H locs 0 0 Q (F0 m 0 ls []) from main _ _ _ hP hD hS hl
  clear hP hD hS hl ls hAe
  intro H locs ls hP hD hS hl
  refine lv_iconst (v := -1) hx hb dX7_fault_0 (by decide) ?_
  refine lv_istore_n (lv' := [(2, .int ((-1))), (0, .ref (aM 0)), (1, .int v1)]) hx hb dX7_fault_1 rfl hl (by decide) rfl (fun ls hl => ?_)
  refine lv_iconst (v := 0) hx hb dX7_fault_2 (by decide) ?_
  refine lv_istore_n (lv' := [(3, .int 0), (2, .int ((-1))), (0, .ref (aM 0)), (1, .int v1)]) hx hb dX7_fault_3 rfl hl (by decide) rfl (fun ls hl => ?_)
  refine LH_4 _ (fun v2 Mexponent h H locs ls hP hD hS hl => ?_) _ _ _ _ h _ _ _ hP hD hS (lv_sub hl [2, 3, 1, 0] rfl)
  · skip
    refine lv_iload_n hx hb dX7_fault_117 rfl (lv_at hl 0 rfl) ?_
    have hP9 := hP
    have hD9 := hD
    have hS9 := hS
    subst hQ
    cases h
    exact W.iret hx hb hr (fun t ht hW => ⟨⟨_, (), rfl, rfl, by rw [ht]; exact hP9, va_K.moved hW.alike hK, hD9⟩, hS9.F ht⟩) hS9.2.2 dX7_fault_118
def BX7_unit_97 (Mformulas : Nat → Int32) (Mkind : Nat → Int32) (Mone : Nat → Int32) (Mother : Nat → Int32) (Msigns : Nat → Int32) (Mplace : Nat → Int32) (MleftOf : Nat → Int32) (MrightOf : Nat → Int32) (Mmodels : Int32) (v1 : Int32) (v2 : Int32) (v3 : Int32) (K : Int32 → Int32 → (Nat → Int32) → (Nat → Int32) → Int32 → Option (Int32 × (Nat → Int32) × (Nat → Int32) × Int32)) (E106 : Int32 → (Nat → Int32) → (Nat → Int32) → Int32 → Option (Int32 × (Nat → Int32) × (Nat → Int32) × Int32)) (v5 : Int32) (s0 : Int32) (s1 : Int32) (Munit : Nat → Int32) (Mexponent : Nat → Int32) (Mthrown : Int32) : Option (Int32 × (Nat → Int32) × (Nat → Int32) × Int32) := K (s0 + s1) (v5 + 1) Munit Mexponent Mthrown
def LX7_unit_71 (Mformulas : Nat → Int32) (Mkind : Nat → Int32) (Mone : Nat → Int32) (Mother : Nat → Int32) (Msigns : Nat → Int32) (Mplace : Nat → Int32) (MleftOf : Nat → Int32) (MrightOf : Nat → Int32) (Mmodels : Int32) (v1 : Int32) (v2 : Int32) (v3 : Int32) (E106 : Int32 → (Nat → Int32) → (Nat → Int32) → Int32 → Option (Int32 × (Nat → Int32) × (Nat → Int32) × Int32)) : Nat → Int32 → Int32 → (Nat → Int32) → (Nat → Int32) → Int32 → Option (Int32 × (Nat → Int32) × (Nat → Int32) × Int32)
  | 0, _, _, _, _, _ => none
  | fuel + 1, v4, v5, Munit, Mexponent, Mthrown => (if Mmodels ≤ v5 then E106 v4 Munit Mexponent Mthrown else bnd2 (fX7_fault v5 Munit Mformulas Mkind Mone Mother Msigns Mplace MleftOf MrightOf Mexponent) (fun r10 exponent_10 => (if r10 = ((-1)) then BX7_unit_97 Mformulas Mkind Mone Mother Msigns Mplace MleftOf MrightOf Mmodels v1 v2 v3 (LX7_unit_71 Mformulas Mkind Mone Mother Msigns Mplace MleftOf MrightOf Mmodels v1 v2 v3 E106 fuel) E106 v5 v4 0 Munit exponent_10 Mthrown else BX7_unit_97 Mformulas Mkind Mone Mother Msigns Mplace MleftOf MrightOf Mmodels v1 v2 v3 (LX7_unit_71 Mformulas Mkind Mone Mother Msigns Mplace MleftOf MrightOf Mmodels v1 v2 v3 E106 fuel) E106 v5 v4 1 Munit exponent_10 Mthrown)))
def BX7_unit_37 (Mformulas : Nat → Int32) (Mkind : Nat → Int32) (Mone : Nat → Int32) (Mother : Nat → Int32) (Msigns : Nat → Int32) (Mplace : Nat → Int32) (MleftOf : Nat → Int32) (MrightOf : Nat → Int32) (Mmodels : Int32) (v1 : Int32) (v2 : Int32) (v3 : Int32)  (s1 : Int32) (Munit : Nat → Int32) (Mexponent : Nat → Int32) (Mthrown : Int32) : Option (Int32 × (Nat → Int32) × (Nat → Int32) × Int32) := bnd2 (fX7_holds s1 Mthrown) (fun r5 thrown_5 => (if r5 = 0 then some (0, Munit, Mexponent, thrown_5) else gi (2 * v1) 12 (gi ((2 * v1) + 1) 12 (LX7_unit_71 Mformulas Mkind Mone Mother Msigns Mplace MleftOf MrightOf Mmodels v1 v2 v3 (fun (v4 : Int32) (Munit : Nat → Int32) (Mexponent : Nat → Int32) (Mthrown : Int32) => some (v4, Munit, Mexponent, Mthrown)) 1000 0 0 (upd (upd Munit ((2 * v1).toNatClampNeg) v2) (((2 * v1) + 1).toNatClampNeg) v3) Mexponent thrown_5))))
def BX7_unit_36 (Mformulas : Nat → Int32) (Mkind : Nat → Int32) (Mone : Nat → Int32) (Mother : Nat → Int32) (Msigns : Nat → Int32) (Mplace : Nat → Int32) (MleftOf : Nat → Int32) (MrightOf : Nat → Int32) (Mmodels : Int32) (v1 : Int32) (v2 : Int32) (v3 : Int32)  (Munit : Nat → Int32) (Mexponent : Nat → Int32) (Mthrown : Int32) : Option (Int32 × (Nat → Int32) × (Nat → Int32) × Int32) := BX7_unit_37 Mformulas Mkind Mone Mother Msigns Mplace MleftOf MrightOf Mmodels v1 v2 v3 2 Munit Mexponent Mthrown
def fX7_unit (v1 : Int32) (v2 : Int32) (v3 : Int32) (Munit : Nat → Int32) (Mformulas : Nat → Int32) (Mkind : Nat → Int32) (Mone : Nat → Int32) (Mother : Nat → Int32) (Msigns : Nat → Int32) (Mplace : Nat → Int32) (MleftOf : Nat → Int32) (MrightOf : Nat → Int32) (Mexponent : Nat → Int32) (Mthrown : Int32) (Mmodels : Int32) : Option (Int32 × (Nat → Int32) × (Nat → Int32) × Int32) := bnd1 (fX7_isInput v1) (fun r1 => (if r1 = 0 then BX7_unit_37 Mformulas Mkind Mone Mother Msigns Mplace MleftOf MrightOf Mmodels v1 v2 v3 1 Munit Mexponent Mthrown else bnd1 (fX7_isIn v2 ((-3)) 3) (fun r3 => (if r3 = 0 then BX7_unit_36 Mformulas Mkind Mone Mother Msigns Mplace MleftOf MrightOf Mmodels v1 v2 v3 Munit Mexponent Mthrown else bnd1 (fX7_isIn v3 ((-3)) 3) (fun r12 => (if r12 = 0 then BX7_unit_36 Mformulas Mkind Mone Mother Msigns Mplace MleftOf MrightOf Mmodels v1 v2 v3 Munit Mexponent Mthrown else BX7_unit_37 Mformulas Mkind Mone Mother Msigns Mplace MleftOf MrightOf Mmodels v1 v2 v3 0 Munit Mexponent Mthrown))))))
abbrev rmX7_unit : Room := { frames := 2, cells := 0, slots := 0, locals := 51 }
set_option maxHeartbeats 4000000 in
set_option maxRecDepth 100000 in
theorem met_X7_unit (l : Launch) (D : va_G) (k : Nat → ClassId)  (aM : Nat → Nat) (sz : Nat) (Mestimate : Nat → Int32) (Munit : Nat → Int32) (Msort : Nat → Int32) (Mwidth : Nat → Int32) (Mmany : Nat → Int32) (Mreading : Nat → Int32) (Mvariance : Nat → Int32) (Mcovariance : Nat → Int32) (Mline : Nat → Int32) (Mformulas : Nat → Int32) (Mroot : Nat → Int32) (Mkind : Nat → Int32) (Mone : Nat → Int32) (Mother : Nat → Int32) (Msigns : Nat → Int32) (Mplace : Nat → Int32) (MleftOf : Nat → Int32) (MrightOf : Nat → Int32) (Mtype : Nat → Int32) (Msum : Nat → Int32) (Msign : Nat → Int32) (MsignAt : Nat → Int32) (Mproduct : Nat → Int32) (Mvalue : Nat → Int64) (Mslope : Nat → Int64) (Mexponent : Nat → Int32) (Mdrawn : Nat → Int32) (Mslopes : Nat → Int64) (Mfrom : Nat → Int32) (Mfactor : Nat → Int32) (Mthrown : Int32) (Mlength : Int32) (Mmodels : Int32) (Mopen : Int32) (Mat : Int32) (Mrows : Int32) (Mx : Int32) (v1 : Int32) (v2 : Int32) (v3 : Int32) (r : Int32) (RMunit : Nat → Int32) (RMexponent : Nat → Int32) (RMthrown : Int32) (h : fX7_unit v1 v2 v3 Munit Mformulas Mkind Mone Mother Msigns Mplace MleftOf MrightOf Mexponent Mthrown Mmodels = some (r, RMunit, RMexponent, RMthrown)) : Met l yX7_unit wsX7_unit rmX7_unit (va_Pc [.ref (aM 0), .int v1, .int v2, .int v3] (PreW D k (wM k aM Mestimate Munit Msort Mwidth Mmany Mreading Mvariance Mcovariance Mline Mformulas Mroot Mkind Mone Mother Msigns Mplace MleftOf MrightOf Mtype Msum Msign MsignAt Mproduct Mvalue Mslope Mexponent Mdrawn Mslopes Mfrom Mfactor Mthrown Mlength Mmodels Mopen Mat Mrows Mx) sz)) (va_Qi (fun r9 (_ : Unit) => r9 = r) (fun _ t => PostW D k (va_A (wM k aM Mestimate Munit Msort Mwidth Mmany Mreading Mvariance Mcovariance Mline Mformulas Mroot Mkind Mone Mother Msigns Mplace MleftOf MrightOf Mtype Msum Msign MsignAt Mproduct Mvalue Mslope Mexponent Mdrawn Mslopes Mfrom Mfactor Mthrown Mlength Mmodels Mopen Mat Mrows Mx) sz) (wM k aM Mestimate RMunit Msort Mwidth Mmany Mreading Mvariance Mcovariance Mline Mformulas Mroot Mkind Mone Mother Msigns Mplace MleftOf MrightOf Mtype Msum Msign MsignAt Mproduct Mvalue Mslope RMexponent Mdrawn Mslopes Mfrom Mfactor RMthrown Mlength Mmodels Mopen Mat Mrows Mx) t) (va_A (wM k aM Mestimate Munit Msort Mwidth Mmany Mreading Mvariance Mcovariance Mline Mformulas Mroot Mkind Mone Mother Msigns Mplace MleftOf MrightOf Mtype Msum Msign MsignAt Mproduct Mvalue Mslope Mexponent Mdrawn Mslopes Mfrom Mfactor Mthrown Mlength Mmodels Mopen Mat Mrows Mx) sz)) 0 0 (va_A (wM k aM Mestimate Munit Msort Mwidth Mmany Mreading Mvariance Mcovariance Mline Mformulas Mroot Mkind Mone Mother Msigns Mplace MleftOf MrightOf Mtype Msum Msign MsignAt Mproduct Mvalue Mslope Mexponent Mdrawn Mslopes Mfrom Mfactor Mthrown Mlength Mmodels Mopen Mat Mrows Mx) sz) := by
  refine Met.ofW (cc := cX7_unit) (maxL := 6) (ret := (some .int)) (by decide) rfl ?_
  intro p e s m args below meth c s₁ B hml hv
  obtain ⟨hav, hsz, hP, hK, hD0⟩ := hv
  have hx := B.exec
  have hb := B.bytes
  have hr := B.returns
  have hts := atoms_spec (ws := wsX7_unit) B.pre
  have hown : s.vm.findClass RX7 = some m.cls := findClass_of_methodNamed B.named
  have hlocks := B.notSynchronized
  subst hsz
  have hD := hD0.self (sz := s.heap.size)
  clear hD0
  generalize hAe : va_A (wM k aM Mestimate Munit Msort Mwidth Mmany Mreading Mvariance Mcovariance Mline Mformulas Mroot Mkind Mone Mother Msigns Mplace MleftOf MrightOf Mtype Msum Msign MsignAt Mproduct Mvalue Mslope Mexponent Mdrawn Mslopes Mfrom Mfactor Mthrown Mlength Mmodels Mopen Mat Mrows Mx) s.heap.size = A at hD ⊢
  have hA : ∀ q : Nat, s.heap.size ≤ q → A q := fun q h => by rw [← hAe]; exact Or.inr h
  have hS : va_S A s.heap s.heap [] := va_S.rf
  have hl := lv_entry ([.ref (aM 0), .int v1, .int v2, .int v3]) (n := 6) (Nat.le_of_ble_eq_true rfl)
  rw [show entryFrame m args 6 = entryFrame m ([.ref (aM 0), .int v1, .int v2, .int v3] : List Value).toArray 6 from by rw [hav], lg_entry_eq]
  generalize (lg_sl ([.ref (aM 0), .int v1, .int v2, .int v3]) ++ List.replicate (6 - (lg_sl ([.ref (aM 0), .int v1, .int v2, .int v3])).length) Slot.unset).toArray = ls at hl ⊢
  replace hl : lv_has ls 6 [(0, .ref (aM 0)), (1, .int v1), (2, .int v2), (3, .int v3)] := hl
  have f13 := hts (.fieldLink RX7 13 "UncertainBookModel" "unit" "[I") (by decide +kernel)
  have f115 := hts (.fieldLink RX7 115 "UncertainBookModel" "models" "I") (by decide +kernel)
  have iX7 : ∀ w ∈ u_ws RX7 TX7 37, w ∈ wsX7_unit := by decide +kernel
  refine w_q (fun Q hQ => ?_)
  unfold fX7_unit at h
  show W p l e rmX7_unit s m args below meth c s.heap [] 0 0 Q (F0 m 0 ls [])
  have BH_97 : ∀ (K : Int32 → Int32 → (Nat → Int32) → (Nat → Int32) → Int32 → Option (Int32 × (Nat → Int32) × (Nat → Int32) × Int32)) (hKK : ∀ (v4 : Int32) (v5 : Int32) (Munit : Nat → Int32) (Mexponent : Nat → Int32) (Mthrown : Int32), K v4 v5 Munit Mexponent Mthrown = some (r, RMunit, RMexponent, RMthrown) → ∀ (H : Heap) (locs : List Loc) (ls : Array Slot), va_P D vwCl (wM k aM Mestimate Munit Msort Mwidth Mmany Mreading Mvariance Mcovariance Mline Mformulas Mroot Mkind Mone Mother Msigns Mplace MleftOf MrightOf Mtype Msum Msign MsignAt Mproduct Mvalue Mslope Mexponent Mdrawn Mslopes Mfrom Mfactor Mthrown Mlength Mmodels Mopen Mat Mrows Mx) H → va_D A (wM k aM Mestimate Munit Msort Mwidth Mmany Mreading Mvariance Mcovariance Mline Mformulas Mroot Mkind Mone Mother Msigns Mplace MleftOf MrightOf Mtype Msum Msign MsignAt Mproduct Mvalue Mslope Mexponent Mdrawn Mslopes Mfrom Mfactor Mthrown Mlength Mmodels Mopen Mat Mrows Mx) → va_S A s.heap H locs → lv_has ls 6 [(0, .ref (aM 0)), (4, .int v4), (5, .int v5)] → W p l e rmX7_unit s m args below meth c H locs 0 0 Q (F0 m 71 ls [])) (E106 : Int32 → (Nat → Int32) → (Nat → Int32) → Int32 → Option (Int32 × (Nat → Int32) × (Nat → Int32) × Int32)) (hE106 : ∀ (v4 : Int32) (Munit : Nat → Int32) (Mexponent : Nat → Int32) (Mthrown : Int32), E106 v4 Munit Mexponent Mthrown = some (r, RMunit, RMexponent, RMthrown) → ∀ (H : Heap) (locs : List Loc) (ls : Array Slot), va_P D vwCl (wM k aM Mestimate Munit Msort Mwidth Mmany Mreading Mvariance Mcovariance Mline Mformulas Mroot Mkind Mone Mother Msigns Mplace MleftOf MrightOf Mtype Msum Msign MsignAt Mproduct Mvalue Mslope Mexponent Mdrawn Mslopes Mfrom Mfactor Mthrown Mlength Mmodels Mopen Mat Mrows Mx) H → va_D A (wM k aM Mestimate Munit Msort Mwidth Mmany Mreading Mvariance Mcovariance Mline Mformulas Mroot Mkind Mone Mother Msigns Mplace MleftOf MrightOf Mtype Msum Msign MsignAt Mproduct Mvalue Mslope Mexponent Mdrawn Mslopes Mfrom Mfactor Mthrown Mlength Mmodels Mopen Mat Mrows Mx) → va_S A s.heap H locs → lv_has ls 6 [(4, .int v4)] → W p l e rmX7_unit s m args below meth c H locs 0 0 Q (F0 m 106 ls [])) (v5 : Int32) (s0 : Int32) (s1 : Int32) (Munit : Nat → Int32) (Mexponent : Nat → Int32) (Mthrown : Int32), BX7_unit_97 Mformulas Mkind Mone Mother Msigns Mplace MleftOf MrightOf Mmodels v1 v2 v3 K E106 v5 s0 s1 Munit Mexponent Mthrown = some (r, RMunit, RMexponent, RMthrown) → ∀ (H : Heap) (locs : List Loc) (ls : Array Slot), va_P D vwCl (wM k aM Mestimate Munit Msort Mwidth Mmany Mreading Mvariance Mcovariance Mline Mformulas Mroot Mkind Mone Mother Msigns Mplace MleftOf MrightOf Mtype Msum Msign MsignAt Mproduct Mvalue Mslope Mexponent Mdrawn Mslopes Mfrom Mfactor Mthrown Mlength Mmodels Mopen Mat Mrows Mx) H → va_D A (wM k aM Mestimate Munit Msort Mwidth Mmany Mreading Mvariance Mcovariance Mline Mformulas Mroot Mkind Mone Mother Msigns Mplace MleftOf MrightOf Mtype Msum Msign MsignAt Mproduct Mvalue Mslope Mexponent Mdrawn Mslopes Mfrom Mfactor Mthrown Mlength Mmodels Mopen Mat Mrows Mx) → va_S A s.heap H locs → lv_has ls 6 [(0, .ref (aM 0)), (5, .int v5)] → W p l e rmX7_unit s m args below meth c H locs 0 0 Q (F0 m 97 ls [.int s1, .int s0]) := by
    intro K hKK E106 hE106 v5 s0 s1 Munit Mexponent Mthrown h H locs ls hP hD hS hl
    unfold BX7_unit_97 at h
    refine lv_iadd hx hb dX7_unit_97 ?_
    refine lv_istore (lv' := [(4, .int (s0 + s1)), (0, .ref (aM 0)), (5, .int v5)]) hx hb dX7_unit_98 hl (by decide) rfl (fun ls hl => ?_)
    refine lv_iinc (v := v5 + 1) (lv' := [(5, .int (v5 + 1)), (4, .int (s0 + s1)), (0, .ref (aM 0))]) hx hb dX7_unit_100 hl (k := 2) rfl rfl (by decide) rfl (fun ls hl => ?_)
    refine lv_goto (tgt := 71) hx hb dX7_unit_103 (by decide) ?_
    exact hKK _ _ _ _ _ h _ _ _ hP hD hS (lv_sub hl [2, 1, 0] rfl)
  have LH_71 : ∀ (E106 : Int32 → (Nat → Int32) → (Nat → Int32) → Int32 → Option (Int32 × (Nat → Int32) × (Nat → Int32) × Int32)) (hE106 : ∀ (v4 : Int32) (Munit : Nat → Int32) (Mexponent : Nat → Int32) (Mthrown : Int32), E106 v4 Munit Mexponent Mthrown = some (r, RMunit, RMexponent, RMthrown) → ∀ (H : Heap) (locs : List Loc) (ls : Array Slot), va_P D vwCl (wM k aM Mestimate Munit Msort Mwidth Mmany Mreading Mvariance Mcovariance Mline Mformulas Mroot Mkind Mone Mother Msigns Mplace MleftOf MrightOf Mtype Msum Msign MsignAt Mproduct Mvalue Mslope Mexponent Mdrawn Mslopes Mfrom Mfactor Mthrown Mlength Mmodels Mopen Mat Mrows Mx) H → va_D A (wM k aM Mestimate Munit Msort Mwidth Mmany Mreading Mvariance Mcovariance Mline Mformulas Mroot Mkind Mone Mother Msigns Mplace MleftOf MrightOf Mtype Msum Msign MsignAt Mproduct Mvalue Mslope Mexponent Mdrawn Mslopes Mfrom Mfactor Mthrown Mlength Mmodels Mopen Mat Mrows Mx) → va_S A s.heap H locs → lv_has ls 6 [(4, .int v4)] → W p l e rmX7_unit s m args below meth c H locs 0 0 Q (F0 m 106 ls [])) (n : Nat) (v4 : Int32) (v5 : Int32) (Munit : Nat → Int32) (Mexponent : Nat → Int32) (Mthrown : Int32), LX7_unit_71 Mformulas Mkind Mone Mother Msigns Mplace MleftOf MrightOf Mmodels v1 v2 v3 E106 n v4 v5 Munit Mexponent Mthrown = some (r, RMunit, RMexponent, RMthrown) → ∀ (H : Heap) (locs : List Loc) (ls : Array Slot), va_P D vwCl (wM k aM Mestimate Munit Msort Mwidth Mmany Mreading Mvariance Mcovariance Mline Mformulas Mroot Mkind Mone Mother Msigns Mplace MleftOf MrightOf Mtype Msum Msign MsignAt Mproduct Mvalue Mslope Mexponent Mdrawn Mslopes Mfrom Mfactor Mthrown Mlength Mmodels Mopen Mat Mrows Mx) H → va_D A (wM k aM Mestimate Munit Msort Mwidth Mmany Mreading Mvariance Mcovariance Mline Mformulas Mroot Mkind Mone Mother Msigns Mplace MleftOf MrightOf Mtype Msum Msign MsignAt Mproduct Mvalue Mslope Mexponent Mdrawn Mslopes Mfrom Mfactor Mthrown Mlength Mmodels Mopen Mat Mrows Mx) → va_S A s.heap H locs → lv_has ls 6 [(0, .ref (aM 0)), (4, .int v4), (5, .int v5)] → W p l e rmX7_unit s m args below meth c H locs 0 0 Q (F0 m 71 ls []) := by
    intro E106 hE106 n
    induction n with
    | zero => intro v4 v5 Munit Mexponent Mthrown h; simp [LX7_unit_71] at h
    | succ n ih =>
    intro v4 v5 Munit Mexponent Mthrown h H locs ls hP hD hS hl
    rw [LX7_unit_71] at h
    refine lv_iload hx hb dX7_unit_71 (lv_at hl 2 rfl) ?_
    refine lv_aload_n hx hb dX7_unit_73 rfl (lv_at hl 0 rfl) ?_
    refine va_get (D := D) (ci := 7) (v := .int Mmodels) (C := RX7) (T := TX7) (N := 37) hx hb hts iX7 hown hK hP 0 rfl rfl 11 (by decide) f115 (fun _ h9 => h9) rfl dX7_unit_74 ?_
    refine lv_icmp_ge (tgt := 106) hx hb dX7_unit_77 (by decide) (fun c9 => ?_) (fun c9 => ?_)
    · replace h := sf_t c9 h
      exact hE106 _ _ _ _ h _ _ _ hP hD hS (lv_sub hl [1] rfl)
    · replace h := sf_f c9 h
      refine lv_iload hx hb dX7_unit_80 (lv_at hl 1 rfl) ?_
      refine lv_aload_n hx hb dX7_unit_82 rfl (lv_at hl 0 rfl) ?_
      refine lv_iload hx hb dX7_unit_83 (lv_at hl 2 rfl) ?_
      obtain ⟨r10, exponent_10, hc10, h⟩ := bnd2_inv h
      have hFc := va_free (wc := (wM k aM Mestimate Munit Msort Mwidth Mmany Mreading Mvariance Mcovariance Mline Mformulas Mroot Mkind Mone Mother Msigns Mplace MleftOf MrightOf Mtype Msum Msign MsignAt Mproduct Mvalue Mslope Mexponent Mdrawn Mslopes Mfrom Mfactor Mthrown Mlength Mmodels Mopen Mat Mrows Mx)) hD hS hA [0, 1, 2, 3, 4, 5, 6, 7, 8, 9, 10, 11, 12, 13, 14, 15, 16, 17, 18, 19, 20, 21, 22, 23, 24, 25, 26, 27, 28, 29, 30] rfl
      refine xc_i (va_runV (As := [.int v5]) (rest := [.int v4]) ⟨hx, hb, hml, hown, hts⟩ (met_X7_fault l D k  aM H.size Mestimate Munit Msort Mwidth Mmany Mreading Mvariance Mcovariance Mline Mformulas Mroot Mkind Mone Mother Msigns Mplace MleftOf MrightOf Mtype Msum Msign MsignAt Mproduct Mvalue Mslope Mexponent Mdrawn Mslopes Mfrom Mfactor Mthrown Mlength Mmodels Mopen Mat Mrows Mx v5 r10 exponent_10 hc10) (cwV 1 hts gX7_unit_X7_fault rfl rfl rfl (by decide +kernel) ⟨Nat.le_of_ble_eq_true rfl, Nat.le_of_ble_eq_true rfl⟩) ⟨pw_blind, va_recv hK hP (ci := 7) (q0 := 0) rfl rfl, pw_start hP hK hD⟩ rfl rfl hl.1 rfl (lv_room (Nat.le_of_ble_eq_true rfl)) dX7_unit_85 ⟨Nat.zero_le _, Nat.zero_le _⟩) hS hFc (fun H1 locs hP1 hD1 hk1 hS => ?_)
      obtain ⟨hP, hD⟩ := vj_all hFc hP1 hD1
      clear hP1 hD1 hk1 hFc
      generalize H1 = H at hP hS ⊢
      refine lv_iconst (v := -1) hx hb dX7_unit_88 (by decide) ?_
      refine lv_icmp_ne (tgt := 96) hx hb dX7_unit_89 (by decide) (fun c11 => ?_) (fun c11 => ?_)
      · replace h := sf_f c11 h
        refine lv_iconst (v := 1) hx hb dX7_unit_96 (by decide) ?_
        exact BH_97 _ ih _ hE106 _ _ _ _ _ _ h _ _ _ hP hD hS (lv_sub hl [0, 2] rfl)
      · replace h := sf_t c11 h
        refine lv_iconst (v := 0) hx hb dX7_unit_92 (by decide) ?_
        refine lv_goto (tgt := 97) hx hb dX7_unit_93 (by decide) ?_
        exact BH_97 _ ih _ hE106 _ _ _ _ _ _ h _ _ _ hP hD hS (lv_sub hl [0, 2] rfl)
  have BH_37 : ∀ (s1 : Int32) (Munit : Nat → Int32) (Mexponent : Nat → Int32) (Mthrown : Int32), BX7_unit_37 Mformulas Mkind Mone Mother Msigns Mplace MleftOf MrightOf Mmodels v1 v2 v3 s1 Munit Mexponent Mthrown = some (r, RMunit, RMexponent, RMthrown) → ∀ (H : Heap) (locs : List Loc) (ls : Array Slot), va_P D vwCl (wM k aM Mestimate Munit Msort Mwidth Mmany Mreading Mvariance Mcovariance Mline Mformulas Mroot Mkind Mone Mother Msigns Mplace MleftOf MrightOf Mtype Msum Msign MsignAt Mproduct Mvalue Mslope Mexponent Mdrawn Mslopes Mfrom Mfactor Mthrown Mlength Mmodels Mopen Mat Mrows Mx) H → va_D A (wM k aM Mestimate Munit Msort Mwidth Mmany Mreading Mvariance Mcovariance Mline Mformulas Mroot Mkind Mone Mother Msigns Mplace MleftOf MrightOf Mtype Msum Msign MsignAt Mproduct Mvalue Mslope Mexponent Mdrawn Mslopes Mfrom Mfactor Mthrown Mlength Mmodels Mopen Mat Mrows Mx) → va_S A s.heap H locs → lv_has ls 6 [(0, .ref (aM 0)), (1, .int v1), (2, .int v2), (3, .int v3)] → W p l e rmX7_unit s m args below meth c H locs 0 0 Q (F0 m 37 ls [.int s1, .ref (aM 0)]) := by
    intro  s1 Munit Mexponent Mthrown h H locs ls hP hD hS hl
    unfold BX7_unit_37 at h
    obtain ⟨r5, thrown_5, hc5, h⟩ := bnd2_inv h
    have hFc := va_free (wc := (wM k aM Mestimate Munit Msort Mwidth Mmany Mreading Mvariance Mcovariance Mline Mformulas Mroot Mkind Mone Mother Msigns Mplace MleftOf MrightOf Mtype Msum Msign MsignAt Mproduct Mvalue Mslope Mexponent Mdrawn Mslopes Mfrom Mfactor Mthrown Mlength Mmodels Mopen Mat Mrows Mx)) hD hS hA [0, 1, 2, 3, 4, 5, 6, 7, 8, 9, 10, 11, 12, 13, 14, 15, 16, 17, 18, 19, 20, 21, 22, 23, 24, 25, 26, 27, 28, 29, 30] rfl
    refine xc_i (va_runV (As := [.int s1]) (rest := []) ⟨hx, hb, hml, hown, hts⟩ (met_X7_holds l D k  aM H.size Mestimate Munit Msort Mwidth Mmany Mreading Mvariance Mcovariance Mline Mformulas Mroot Mkind Mone Mother Msigns Mplace MleftOf MrightOf Mtype Msum Msign MsignAt Mproduct Mvalue Mslope Mexponent Mdrawn Mslopes Mfrom Mfactor Mthrown Mlength Mmodels Mopen Mat Mrows Mx s1 r5 thrown_5 hc5) (cwV 1 hts gX7_unit_X7_holds rfl rfl rfl (by decide +kernel) ⟨Nat.le_of_ble_eq_true rfl, Nat.le_of_ble_eq_true rfl⟩) ⟨pw_blind, va_recv hK hP (ci := 7) (q0 := 0) rfl rfl, pw_start hP hK hD⟩ rfl rfl hl.1 rfl (lv_room (Nat.le_of_ble_eq_true rfl)) dX7_unit_37 ⟨Nat.zero_le _, Nat.zero_le _⟩) hS hFc (fun H1 locs hP1 hD1 hk1 hS => ?_)
    obtain ⟨hP, hD⟩ := vj_all hFc hP1 hD1
    clear hP1 hD1 hk1 hFc
    generalize H1 = H at hP hS ⊢
    refine lv_if_ne (tgt := 45) hx hb dX7_unit_40 (by decide) (fun c6 => ?_) (fun c6 => ?_)
    · replace h := sf_f c6 h
      refine lv_aload_n hx hb dX7_unit_45 rfl (lv_at hl 0 rfl) ?_
      refine va_get (D := D) (ci := 7) (v := .ref (aM 2)) (C := RX7) (T := TX7) (N := 37) hx hb hts iX7 hown hK hP 0 rfl rfl 2 (by decide) f13 (fun _ h9 => h9) rfl dX7_unit_46 ?_
      refine lv_iconst (v := 2) hx hb dX7_unit_49 (by decide) ?_
      refine lv_iload_n hx hb dX7_unit_50 rfl (lv_at hl 1 rfl) ?_
      refine lv_imul hx hb dX7_unit_51 ?_
      refine lv_iload_n hx hb dX7_unit_52 rfl (lv_at hl 2 rfl) ?_
      obtain ⟨hi7, h⟩ := gi_inv h
      refine va_iast hx hb hK hP hD hS 2 0 rfl rfl hi7 dX7_unit_53 (fun H locs hP hD hS => ?_)
      replace hP : va_P D vwCl (wM k aM Mestimate (upd Munit ((2 * v1).toNatClampNeg) v2) Msort Mwidth Mmany Mreading Mvariance Mcovariance Mline Mformulas Mroot Mkind Mone Mother Msigns Mplace MleftOf MrightOf Mtype Msum Msign MsignAt Mproduct Mvalue Mslope Mexponent Mdrawn Mslopes Mfrom Mfactor thrown_5 Mlength Mmodels Mopen Mat Mrows Mx) H := hP
      replace hD : va_D A (wM k aM Mestimate (upd Munit ((2 * v1).toNatClampNeg) v2) Msort Mwidth Mmany Mreading Mvariance Mcovariance Mline Mformulas Mroot Mkind Mone Mother Msigns Mplace MleftOf MrightOf Mtype Msum Msign MsignAt Mproduct Mvalue Mslope Mexponent Mdrawn Mslopes Mfrom Mfactor thrown_5 Mlength Mmodels Mopen Mat Mrows Mx) := hD
      refine lv_aload_n hx hb dX7_unit_54 rfl (lv_at hl 0 rfl) ?_
      refine va_get (D := D) (ci := 7) (v := .ref (aM 2)) (C := RX7) (T := TX7) (N := 37) hx hb hts iX7 hown hK hP 0 rfl rfl 2 (by decide) f13 (fun _ h9 => h9) rfl dX7_unit_55 ?_
      refine lv_iconst (v := 2) hx hb dX7_unit_58 (by decide) ?_
      refine lv_iload_n hx hb dX7_unit_59 rfl (lv_at hl 1 rfl) ?_
      refine lv_imul hx hb dX7_unit_60 ?_
      refine lv_iconst (v := 1) hx hb dX7_unit_61 (by decide) ?_
      refine lv_iadd hx hb dX7_unit_62 ?_
      refine lv_iload_n hx hb dX7_unit_63 rfl (lv_at hl 3 rfl) ?_
      obtain ⟨hi8, h⟩ := gi_inv h
      refine va_iast hx hb hK hP hD hS 2 0 rfl rfl hi8 dX7_unit_64 (fun H locs hP hD hS => ?_)
      replace hP : va_P D vwCl (wM k aM Mestimate (upd (upd Munit ((2 * v1).toNatClampNeg) v2) (((2 * v1) + 1).toNatClampNeg) v3) Msort Mwidth Mmany Mreading Mvariance Mcovariance Mline Mformulas Mroot Mkind Mone Mother Msigns Mplace MleftOf MrightOf Mtype Msum Msign MsignAt Mproduct Mvalue Mslope Mexponent Mdrawn Mslopes Mfrom Mfactor thrown_5 Mlength Mmodels Mopen Mat Mrows Mx) H := hP
      replace hD : va_D A (wM k aM Mestimate (upd (upd Munit ((2 * v1).toNatClampNeg) v2) (((2 * v1) + 1).toNatClampNeg) v3) Msort Mwidth Mmany Mreading Mvariance Mcovariance Mline Mformulas Mroot Mkind Mone Mother Msigns Mplace MleftOf MrightOf Mtype Msum Msign MsignAt Mproduct Mvalue Mslope Mexponent Mdrawn Mslopes Mfrom Mfactor thrown_5 Mlength Mmodels Mopen Mat Mrows Mx) := hD
      refine lv_iconst (v := 0) hx hb dX7_unit_65 (by decide) ?_
      refine lv_istore (lv' := [(4, .int 0), (0, .ref (aM 0)), (1, .int v1), (2, .int v2), (3, .int v3)]) hx hb dX7_unit_66 hl (by decide) rfl (fun ls hl => ?_)
      refine lv_iconst (v := 0) hx hb dX7_unit_68 (by decide) ?_
      refine lv_istore (lv' := [(5, .int 0), (4, .int 0), (0, .ref (aM 0)), (1, .int v1), (2, .int v2), (3, .int v3)]) hx hb dX7_unit_69 hl (by decide) rfl (fun ls hl => ?_)
      refine LH_71 _ (fun v4 Munit Mexponent Mthrown h H locs ls hP hD hS hl => ?_) _ _ _ _ _ _ h _ _ _ hP hD hS (lv_sub hl [2, 1, 0] rfl)
      · skip
        refine lv_iload hx hb dX7_unit_106 (lv_at hl 0 rfl) ?_
        have hP9 := hP
        have hD9 := hD
        have hS9 := hS
        subst hQ
        cases h
        exact W.iret hx hb hr (fun t ht hW => ⟨⟨_, (), rfl, rfl, by rw [ht]; exact hP9, va_K.moved hW.alike hK, hD9⟩, hS9.F ht⟩) hS9.2.2 dX7_unit_108
    · replace h := sf_t c6 h
      refine lv_iconst (v := 0) hx hb dX7_unit_43 (by decide) ?_
      have hP9 := hP
      have hD9 := hD
      have hS9 := hS
      subst hQ
      cases h
      exact W.iret hx hb hr (fun t ht hW => ⟨⟨_, (), rfl, rfl, by rw [ht]; exact hP9, va_K.moved hW.alike hK, hD9⟩, hS9.F ht⟩) hS9.2.2 dX7_unit_44
  have BH_36 : ∀ (Munit : Nat → Int32) (Mexponent : Nat → Int32) (Mthrown : Int32), BX7_unit_36 Mformulas Mkind Mone Mother Msigns Mplace MleftOf MrightOf Mmodels v1 v2 v3 Munit Mexponent Mthrown = some (r, RMunit, RMexponent, RMthrown) → ∀ (H : Heap) (locs : List Loc) (ls : Array Slot), va_P D vwCl (wM k aM Mestimate Munit Msort Mwidth Mmany Mreading Mvariance Mcovariance Mline Mformulas Mroot Mkind Mone Mother Msigns Mplace MleftOf MrightOf Mtype Msum Msign MsignAt Mproduct Mvalue Mslope Mexponent Mdrawn Mslopes Mfrom Mfactor Mthrown Mlength Mmodels Mopen Mat Mrows Mx) H → va_D A (wM k aM Mestimate Munit Msort Mwidth Mmany Mreading Mvariance Mcovariance Mline Mformulas Mroot Mkind Mone Mother Msigns Mplace MleftOf MrightOf Mtype Msum Msign MsignAt Mproduct Mvalue Mslope Mexponent Mdrawn Mslopes Mfrom Mfactor Mthrown Mlength Mmodels Mopen Mat Mrows Mx) → va_S A s.heap H locs → lv_has ls 6 [(0, .ref (aM 0)), (1, .int v1), (2, .int v2), (3, .int v3)] → W p l e rmX7_unit s m args below meth c H locs 0 0 Q (F0 m 36 ls [.ref (aM 0)]) := by
    intro  Munit Mexponent Mthrown h H locs ls hP hD hS hl
    unfold BX7_unit_36 at h
    refine lv_iconst (v := 2) hx hb dX7_unit_36 (by decide) ?_
    exact BH_37  _ _ _ _ h _ _ _ hP hD hS (lv_sub hl [0, 1, 2, 3] rfl)
  suffices main : ∀ (H : Heap) (locs : List Loc) (ls : Array Slot), va_P D vwCl (wM k aM Mestimate Munit Msort Mwidth Mmany Mreading Mvariance Mcovariance Mline Mformulas Mroot Mkind Mone Mother Msigns Mplace MleftOf MrightOf Mtype Msum Msign MsignAt Mproduct Mvalue Mslope Mexponent Mdrawn Mslopes Mfrom Mfactor Mthrown Mlength Mmodels Mopen Mat Mrows Mx) H → va_D A (wM k aM Mestimate Munit Msort Mwidth Mmany Mreading Mvariance Mcovariance Mline Mformulas Mroot Mkind Mone Mother Msigns Mplace MleftOf MrightOf Mtype Msum Msign MsignAt Mproduct Mvalue Mslope Mexponent Mdrawn Mslopes Mfrom Mfactor Mthrown Mlength Mmodels Mopen Mat Mrows Mx) → va_S A s.heap H locs → lv_has ls 6 [(0, .ref (aM 0)), (1, .int v1), (2, .int v2), (3, .int v3)] → W p l e rmX7_unit s m args below meth c H locs 0 0 Q (F0 m 0 ls []) from main _ _ _ hP hD hS hl
  clear hP hD hS hl ls hAe
  intro H locs ls hP hD hS hl
  refine lv_aload_n hx hb dX7_unit_0 rfl (lv_at hl 0 rfl) ?_
  refine lv_iload_n hx hb dX7_unit_1 rfl (lv_at hl 1 rfl) ?_
  obtain ⟨r1, hc1, h⟩ := bnd1_inv h
  have hPc := hP.sub (ws' := ([] : va_W)) [] rfl
  have hDc := hD.sub (ws' := ([] : va_W)) [] rfl rfl
  have hFc := va_free (wc := ([] : va_W)) hD hS hA [] rfl
  refine xc_i (va_runS (As := [.int v1]) (rest := [.ref (aM 0)]) ⟨hx, hb, hml, hown, hts⟩ (met_X7_isInput l D k  H.size v1 r1 hc1) (va_cwS 1 hts gX7_unit_X7_isInput rfl rfl rfl (by decide +kernel) ⟨Nat.le_of_ble_eq_true rfl, Nat.le_of_ble_eq_true rfl⟩) ⟨pw_blind, pw_start hPc hK hDc⟩ rfl rfl hl.1 rfl (lv_room (Nat.le_of_ble_eq_true rfl)) dX7_unit_2 ⟨Nat.zero_le _, Nat.zero_le _⟩) hS hFc (fun H1 locs hP1 hD1 hk1 hS => ?_)
  obtain ⟨hP, hD⟩ := vj (ws' := (wM k aM Mestimate Munit Msort Mwidth Mmany Mreading Mvariance Mcovariance Mline Mformulas Mroot Mkind Mone Mother Msigns Mplace MleftOf MrightOf Mtype Msum Msign MsignAt Mproduct Mvalue Mslope Mexponent Mdrawn Mslopes Mfrom Mfactor Mthrown Mlength Mmodels Mopen Mat Mrows Mx)) (w1 := ([] : va_W)) hP hD [] [0, 1, 2, 3, 4, 5, 6, 7, 8, 9, 10, 11, 12, 13, 14, 15, 16, 17, 18, 19, 20, 21, 22, 23, 24, 25, 26, 27, 28, 29, 30] [0, 1, 2, 3, 4, 5, 6, 7, 8, 9, 10, 11, 12, 13, 14, 15, 16, 17, 18, 19, 20, 21, 22, 23, 24, 25, 26, 27, 28, 29, 30] rfl rfl rfl rfl rfl hk1 hFc hP1 hD1
  clear hP1 hD1 hk1 hFc
  generalize H1 = H at hP hS ⊢
  refine lv_if_ne (tgt := 12) hx hb dX7_unit_5 (by decide) (fun c2 => ?_) (fun c2 => ?_)
  · replace h := sf_f c2 h
    refine lv_iload_n hx hb dX7_unit_12 rfl (lv_at hl 2 rfl) ?_
    refine lv_bipush (v := -3) hx hb dX7_unit_13 (by decide) ?_
    refine lv_iconst (v := 3) hx hb dX7_unit_15 (by decide) ?_
    obtain ⟨r3, hc3, h⟩ := bnd1_inv h
    have hPc := hP.sub (ws' := ([] : va_W)) [] rfl
    have hDc := hD.sub (ws' := ([] : va_W)) [] rfl rfl
    have hFc := va_free (wc := ([] : va_W)) hD hS hA [] rfl
    refine xc_i (va_runS (As := [.int v2, .int ((-3)), .int 3]) (rest := [.ref (aM 0)]) ⟨hx, hb, hml, hown, hts⟩ (met_X7_isIn l D k  H.size v2 ((-3)) 3 r3 hc3) (va_cwS 3 hts gX7_unit_X7_isIn rfl rfl rfl (by decide +kernel) ⟨Nat.le_of_ble_eq_true rfl, Nat.le_of_ble_eq_true rfl⟩) ⟨pw_blind, pw_start hPc hK hDc⟩ rfl rfl hl.1 rfl (lv_room (Nat.le_of_ble_eq_true rfl)) dX7_unit_16 ⟨Nat.zero_le _, Nat.zero_le _⟩) hS hFc (fun H1 locs hP1 hD1 hk1 hS => ?_)
    obtain ⟨hP, hD⟩ := vj (ws' := (wM k aM Mestimate Munit Msort Mwidth Mmany Mreading Mvariance Mcovariance Mline Mformulas Mroot Mkind Mone Mother Msigns Mplace MleftOf MrightOf Mtype Msum Msign MsignAt Mproduct Mvalue Mslope Mexponent Mdrawn Mslopes Mfrom Mfactor Mthrown Mlength Mmodels Mopen Mat Mrows Mx)) (w1 := ([] : va_W)) hP hD [] [0, 1, 2, 3, 4, 5, 6, 7, 8, 9, 10, 11, 12, 13, 14, 15, 16, 17, 18, 19, 20, 21, 22, 23, 24, 25, 26, 27, 28, 29, 30] [0, 1, 2, 3, 4, 5, 6, 7, 8, 9, 10, 11, 12, 13, 14, 15, 16, 17, 18, 19, 20, 21, 22, 23, 24, 25, 26, 27, 28, 29, 30] rfl rfl rfl rfl rfl hk1 hFc hP1 hD1
    clear hP1 hD1 hk1 hFc
    generalize H1 = H at hP hS ⊢
    refine lv_if_eq (tgt := 36) hx hb dX7_unit_19 (by decide) (fun c4 => ?_) (fun c4 => ?_)
    · replace h := sf_t c4 h
      exact BH_36  _ _ _ h _ _ _ hP hD hS (lv_sub hl [0, 1, 2, 3] rfl)
    · replace h := sf_f c4 h
      refine lv_iload_n hx hb dX7_unit_22 rfl (lv_at hl 3 rfl) ?_
      refine lv_bipush (v := -3) hx hb dX7_unit_23 (by decide) ?_
      refine lv_iconst (v := 3) hx hb dX7_unit_25 (by decide) ?_
      obtain ⟨r12, hc12, h⟩ := bnd1_inv h
      have hPc := hP.sub (ws' := ([] : va_W)) [] rfl
      have hDc := hD.sub (ws' := ([] : va_W)) [] rfl rfl
      have hFc := va_free (wc := ([] : va_W)) hD hS hA [] rfl
      refine xc_i (va_runS (As := [.int v3, .int ((-3)), .int 3]) (rest := [.ref (aM 0)]) ⟨hx, hb, hml, hown, hts⟩ (met_X7_isIn l D k  H.size v3 ((-3)) 3 r12 hc12) (va_cwS 3 hts gX7_unit_X7_isIn rfl rfl rfl (by decide +kernel) ⟨Nat.le_of_ble_eq_true rfl, Nat.le_of_ble_eq_true rfl⟩) ⟨pw_blind, pw_start hPc hK hDc⟩ rfl rfl hl.1 rfl (lv_room (Nat.le_of_ble_eq_true rfl)) dX7_unit_26 ⟨Nat.zero_le _, Nat.zero_le _⟩) hS hFc (fun H1 locs hP1 hD1 hk1 hS => ?_)
      obtain ⟨hP, hD⟩ := vj (ws' := (wM k aM Mestimate Munit Msort Mwidth Mmany Mreading Mvariance Mcovariance Mline Mformulas Mroot Mkind Mone Mother Msigns Mplace MleftOf MrightOf Mtype Msum Msign MsignAt Mproduct Mvalue Mslope Mexponent Mdrawn Mslopes Mfrom Mfactor Mthrown Mlength Mmodels Mopen Mat Mrows Mx)) (w1 := ([] : va_W)) hP hD [] [0, 1, 2, 3, 4, 5, 6, 7, 8, 9, 10, 11, 12, 13, 14, 15, 16, 17, 18, 19, 20, 21, 22, 23, 24, 25, 26, 27, 28, 29, 30] [0, 1, 2, 3, 4, 5, 6, 7, 8, 9, 10, 11, 12, 13, 14, 15, 16, 17, 18, 19, 20, 21, 22, 23, 24, 25, 26, 27, 28, 29, 30] rfl rfl rfl rfl rfl hk1 hFc hP1 hD1
      clear hP1 hD1 hk1 hFc
      generalize H1 = H at hP hS ⊢
      refine lv_if_eq (tgt := 36) hx hb dX7_unit_29 (by decide) (fun c13 => ?_) (fun c13 => ?_)
      · replace h := sf_t c13 h
        exact BH_36  _ _ _ h _ _ _ hP hD hS (lv_sub hl [0, 1, 2, 3] rfl)
      · replace h := sf_f c13 h
        refine lv_iconst (v := 0) hx hb dX7_unit_32 (by decide) ?_
        refine lv_goto (tgt := 37) hx hb dX7_unit_33 (by decide) ?_
        exact BH_37  _ _ _ _ h _ _ _ hP hD hS (lv_sub hl [0, 1, 2, 3] rfl)
  · replace h := sf_t c2 h
    refine lv_iconst (v := 1) hx hb dX7_unit_8 (by decide) ?_
    refine lv_goto (tgt := 37) hx hb dX7_unit_9 (by decide) ?_
    exact BH_37  _ _ _ _ h _ _ _ hP hD hS (lv_sub hl [0, 1, 2, 3] rfl)
def BX7_together_54 (v1 : Int32) (v2 : Int32) (v3 : Int32)  (s1 : Int32) (Mcovariance : Nat → Int32) (Mthrown : Int32) : Option (Int32 × (Nat → Int32) × Int32) := bnd2 (fX7_holds s1 Mthrown) (fun r5 thrown_5 => (if r5 = 0 then some (0, Mcovariance, thrown_5) else gi ((6 * v1) + v2) 36 (gi ((6 * v1) + v2) 36 (gi ((6 * v2) + v1) 36 (some (Mcovariance ((6 * v1) + v2).toNatClampNeg, upd (upd Mcovariance (((6 * v1) + v2).toNatClampNeg) v3) (((6 * v2) + v1).toNatClampNeg) v3, thrown_5))))))
def BX7_together_49 (v1 : Int32) (v2 : Int32) (v3 : Int32)  (Mcovariance : Nat → Int32) (Mthrown : Int32) : Option (Int32 × (Nat → Int32) × Int32) := BX7_together_54 v1 v2 v3 2 Mcovariance Mthrown
def BX7_together_19 (v1 : Int32) (v2 : Int32) (v3 : Int32)  (s0 : Int32) (Mcovariance : Nat → Int32) (Mthrown : Int32) : Option (Int32 × (Nat → Int32) × Int32) := (if s0 = 0 then BX7_together_54 v1 v2 v3 1 Mcovariance Mthrown else (if v1 = v2 then BX7_together_49 v1 v2 v3 Mcovariance Mthrown else bnd1 (fX7_isIn v3 ((-9999)) 9999) (fun r10 => (if r10 = 0 then BX7_together_49 v1 v2 v3 Mcovariance Mthrown else BX7_together_54 v1 v2 v3 0 Mcovariance Mthrown))))
def BX7_together_18 (v1 : Int32) (v2 : Int32) (v3 : Int32)  (Mcovariance : Nat → Int32) (Mthrown : Int32) : Option (Int32 × (Nat → Int32) × Int32) := BX7_together_19 v1 v2 v3 0 Mcovariance Mthrown
def fX7_together (v1 : Int32) (v2 : Int32) (v3 : Int32) (Mcovariance : Nat → Int32) (Mthrown : Int32) : Option (Int32 × (Nat → Int32) × Int32) := bnd1 (fX7_isInput v1) (fun r1 => (if r1 = 0 then BX7_together_18 v1 v2 v3 Mcovariance Mthrown else bnd1 (fX7_isInput v2) (fun r12 => (if r12 = 0 then BX7_together_18 v1 v2 v3 Mcovariance Mthrown else BX7_together_19 v1 v2 v3 1 Mcovariance Mthrown))))
abbrev rmX7_together : Room := { frames := 2, cells := 0, slots := 0, locals := 42 }
set_option maxHeartbeats 4000000 in
set_option maxRecDepth 100000 in
theorem met_X7_together (l : Launch) (D : va_G) (k : Nat → ClassId)  (aM : Nat → Nat) (sz : Nat) (Mestimate : Nat → Int32) (Munit : Nat → Int32) (Msort : Nat → Int32) (Mwidth : Nat → Int32) (Mmany : Nat → Int32) (Mreading : Nat → Int32) (Mvariance : Nat → Int32) (Mcovariance : Nat → Int32) (Mline : Nat → Int32) (Mformulas : Nat → Int32) (Mroot : Nat → Int32) (Mkind : Nat → Int32) (Mone : Nat → Int32) (Mother : Nat → Int32) (Msigns : Nat → Int32) (Mplace : Nat → Int32) (MleftOf : Nat → Int32) (MrightOf : Nat → Int32) (Mtype : Nat → Int32) (Msum : Nat → Int32) (Msign : Nat → Int32) (MsignAt : Nat → Int32) (Mproduct : Nat → Int32) (Mvalue : Nat → Int64) (Mslope : Nat → Int64) (Mexponent : Nat → Int32) (Mdrawn : Nat → Int32) (Mslopes : Nat → Int64) (Mfrom : Nat → Int32) (Mfactor : Nat → Int32) (Mthrown : Int32) (Mlength : Int32) (Mmodels : Int32) (Mopen : Int32) (Mat : Int32) (Mrows : Int32) (Mx : Int32) (v1 : Int32) (v2 : Int32) (v3 : Int32) (r : Int32) (RMcovariance : Nat → Int32) (RMthrown : Int32) (h : fX7_together v1 v2 v3 Mcovariance Mthrown = some (r, RMcovariance, RMthrown)) : Met l yX7_together wsX7_together rmX7_together (va_Pc [.ref (aM 0), .int v1, .int v2, .int v3] (PreW D k (wM k aM Mestimate Munit Msort Mwidth Mmany Mreading Mvariance Mcovariance Mline Mformulas Mroot Mkind Mone Mother Msigns Mplace MleftOf MrightOf Mtype Msum Msign MsignAt Mproduct Mvalue Mslope Mexponent Mdrawn Mslopes Mfrom Mfactor Mthrown Mlength Mmodels Mopen Mat Mrows Mx) sz)) (va_Qi (fun r9 (_ : Unit) => r9 = r) (fun _ t => PostW D k (va_A (wM k aM Mestimate Munit Msort Mwidth Mmany Mreading Mvariance Mcovariance Mline Mformulas Mroot Mkind Mone Mother Msigns Mplace MleftOf MrightOf Mtype Msum Msign MsignAt Mproduct Mvalue Mslope Mexponent Mdrawn Mslopes Mfrom Mfactor Mthrown Mlength Mmodels Mopen Mat Mrows Mx) sz) (wM k aM Mestimate Munit Msort Mwidth Mmany Mreading Mvariance RMcovariance Mline Mformulas Mroot Mkind Mone Mother Msigns Mplace MleftOf MrightOf Mtype Msum Msign MsignAt Mproduct Mvalue Mslope Mexponent Mdrawn Mslopes Mfrom Mfactor RMthrown Mlength Mmodels Mopen Mat Mrows Mx) t) (va_A (wM k aM Mestimate Munit Msort Mwidth Mmany Mreading Mvariance Mcovariance Mline Mformulas Mroot Mkind Mone Mother Msigns Mplace MleftOf MrightOf Mtype Msum Msign MsignAt Mproduct Mvalue Mslope Mexponent Mdrawn Mslopes Mfrom Mfactor Mthrown Mlength Mmodels Mopen Mat Mrows Mx) sz)) 0 0 (va_A (wM k aM Mestimate Munit Msort Mwidth Mmany Mreading Mvariance Mcovariance Mline Mformulas Mroot Mkind Mone Mother Msigns Mplace MleftOf MrightOf Mtype Msum Msign MsignAt Mproduct Mvalue Mslope Mexponent Mdrawn Mslopes Mfrom Mfactor Mthrown Mlength Mmodels Mopen Mat Mrows Mx) sz) := by
  refine Met.ofW (cc := cX7_together) (maxL := 6) (ret := (some .int)) (by decide) rfl ?_
  intro p e s m args below meth c s₁ B hml hv
  obtain ⟨hav, hsz, hP, hK, hD0⟩ := hv
  have hx := B.exec
  have hb := B.bytes
  have hr := B.returns
  have hts := atoms_spec (ws := wsX7_together) B.pre
  have hown : s.vm.findClass RX7 = some m.cls := findClass_of_methodNamed B.named
  have hlocks := B.notSynchronized
  subst hsz
  have hD := hD0.self (sz := s.heap.size)
  clear hD0
  generalize hAe : va_A (wM k aM Mestimate Munit Msort Mwidth Mmany Mreading Mvariance Mcovariance Mline Mformulas Mroot Mkind Mone Mother Msigns Mplace MleftOf MrightOf Mtype Msum Msign MsignAt Mproduct Mvalue Mslope Mexponent Mdrawn Mslopes Mfrom Mfactor Mthrown Mlength Mmodels Mopen Mat Mrows Mx) s.heap.size = A at hD ⊢
  have hA : ∀ q : Nat, s.heap.size ≤ q → A q := fun q h => by rw [← hAe]; exact Or.inr h
  have hS : va_S A s.heap s.heap [] := va_S.rf
  have hl := lv_entry ([.ref (aM 0), .int v1, .int v2, .int v3]) (n := 6) (Nat.le_of_ble_eq_true rfl)
  rw [show entryFrame m args 6 = entryFrame m ([.ref (aM 0), .int v1, .int v2, .int v3] : List Value).toArray 6 from by rw [hav], lg_entry_eq]
  generalize (lg_sl ([.ref (aM 0), .int v1, .int v2, .int v3]) ++ List.replicate (6 - (lg_sl ([.ref (aM 0), .int v1, .int v2, .int v3])).length) Slot.unset).toArray = ls at hl ⊢
  replace hl : lv_has ls 6 [(0, .ref (aM 0)), (1, .int v1), (2, .int v2), (3, .int v3)] := hl
  have f31 := hts (.fieldLink RX7 31 "UncertainBookModel" "covariance" "[I") (by decide +kernel)
  have iX7 : ∀ w ∈ u_ws RX7 TX7 37, w ∈ wsX7_together := by decide +kernel
  refine w_q (fun Q hQ => ?_)
  unfold fX7_together at h
  show W p l e rmX7_together s m args below meth c s.heap [] 0 0 Q (F0 m 0 ls [])
  have BH_54 : ∀ (s1 : Int32) (Mcovariance : Nat → Int32) (Mthrown : Int32), BX7_together_54 v1 v2 v3 s1 Mcovariance Mthrown = some (r, RMcovariance, RMthrown) → ∀ (H : Heap) (locs : List Loc) (ls : Array Slot), va_P D vwCl (wM k aM Mestimate Munit Msort Mwidth Mmany Mreading Mvariance Mcovariance Mline Mformulas Mroot Mkind Mone Mother Msigns Mplace MleftOf MrightOf Mtype Msum Msign MsignAt Mproduct Mvalue Mslope Mexponent Mdrawn Mslopes Mfrom Mfactor Mthrown Mlength Mmodels Mopen Mat Mrows Mx) H → va_D A (wM k aM Mestimate Munit Msort Mwidth Mmany Mreading Mvariance Mcovariance Mline Mformulas Mroot Mkind Mone Mother Msigns Mplace MleftOf MrightOf Mtype Msum Msign MsignAt Mproduct Mvalue Mslope Mexponent Mdrawn Mslopes Mfrom Mfactor Mthrown Mlength Mmodels Mopen Mat Mrows Mx) → va_S A s.heap H locs → lv_has ls 6 [(0, .ref (aM 0)), (1, .int v1), (2, .int v2), (3, .int v3)] → W p l e rmX7_together s m args below meth c H locs 0 0 Q (F0 m 54 ls [.int s1, .ref (aM 0)]) := by
    intro  s1 Mcovariance Mthrown h H locs ls hP hD hS hl
    unfold BX7_together_54 at h
    obtain ⟨r5, thrown_5, hc5, h⟩ := bnd2_inv h
    have hFc := va_free (wc := (wM k aM Mestimate Munit Msort Mwidth Mmany Mreading Mvariance Mcovariance Mline Mformulas Mroot Mkind Mone Mother Msigns Mplace MleftOf MrightOf Mtype Msum Msign MsignAt Mproduct Mvalue Mslope Mexponent Mdrawn Mslopes Mfrom Mfactor Mthrown Mlength Mmodels Mopen Mat Mrows Mx)) hD hS hA [0, 1, 2, 3, 4, 5, 6, 7, 8, 9, 10, 11, 12, 13, 14, 15, 16, 17, 18, 19, 20, 21, 22, 23, 24, 25, 26, 27, 28, 29, 30] rfl
    refine xc_i (va_runV (As := [.int s1]) (rest := []) ⟨hx, hb, hml, hown, hts⟩ (met_X7_holds l D k  aM H.size Mestimate Munit Msort Mwidth Mmany Mreading Mvariance Mcovariance Mline Mformulas Mroot Mkind Mone Mother Msigns Mplace MleftOf MrightOf Mtype Msum Msign MsignAt Mproduct Mvalue Mslope Mexponent Mdrawn Mslopes Mfrom Mfactor Mthrown Mlength Mmodels Mopen Mat Mrows Mx s1 r5 thrown_5 hc5) (cwV 1 hts gX7_together_X7_holds rfl rfl rfl (by decide +kernel) ⟨Nat.le_of_ble_eq_true rfl, Nat.le_of_ble_eq_true rfl⟩) ⟨pw_blind, va_recv hK hP (ci := 7) (q0 := 0) rfl rfl, pw_start hP hK hD⟩ rfl rfl hl.1 rfl (lv_room (Nat.le_of_ble_eq_true rfl)) dX7_together_54 ⟨Nat.zero_le _, Nat.zero_le _⟩) hS hFc (fun H1 locs hP1 hD1 hk1 hS => ?_)
    obtain ⟨hP, hD⟩ := vj_all hFc hP1 hD1
    clear hP1 hD1 hk1 hFc
    generalize H1 = H at hP hS ⊢
    refine lv_if_ne (tgt := 62) hx hb dX7_together_57 (by decide) (fun c6 => ?_) (fun c6 => ?_)
    · replace h := sf_f c6 h
      refine lv_aload_n hx hb dX7_together_62 rfl (lv_at hl 0 rfl) ?_
      refine va_get (D := D) (ci := 7) (v := .ref (aM 8)) (C := RX7) (T := TX7) (N := 37) hx hb hts iX7 hown hK hP 0 rfl rfl 8 (by decide) f31 (fun _ h9 => h9) rfl dX7_together_63 ?_
      refine lv_bipush (v := 6) hx hb dX7_together_66 (by decide) ?_
      refine lv_iload_n hx hb dX7_together_68 rfl (lv_at hl 1 rfl) ?_
      refine lv_imul hx hb dX7_together_69 ?_
      refine lv_iload_n hx hb dX7_together_70 rfl (lv_at hl 2 rfl) ?_
      refine lv_iadd hx hb dX7_together_71 ?_
      obtain ⟨hi7, h⟩ := gi_inv h
      refine va_iald hx hb hK hP 8 0 rfl rfl hi7 dX7_together_72 ?_
      refine lv_istore (lv' := [(5, .int (Mcovariance ((6 * v1) + v2).toNatClampNeg)), (0, .ref (aM 0)), (1, .int v1), (2, .int v2), (3, .int v3)]) hx hb dX7_together_73 hl (by decide) rfl (fun ls hl => ?_)
      refine lv_aload_n hx hb dX7_together_75 rfl (lv_at hl 1 rfl) ?_
      refine va_get (D := D) (ci := 7) (v := .ref (aM 8)) (C := RX7) (T := TX7) (N := 37) hx hb hts iX7 hown hK hP 0 rfl rfl 8 (by decide) f31 (fun _ h9 => h9) rfl dX7_together_76 ?_
      refine lv_bipush (v := 6) hx hb dX7_together_79 (by decide) ?_
      refine lv_iload_n hx hb dX7_together_81 rfl (lv_at hl 2 rfl) ?_
      refine lv_imul hx hb dX7_together_82 ?_
      refine lv_iload_n hx hb dX7_together_83 rfl (lv_at hl 3 rfl) ?_
      refine lv_iadd hx hb dX7_together_84 ?_
      refine lv_iload_n hx hb dX7_together_85 rfl (lv_at hl 4 rfl) ?_
      obtain ⟨hi8, h⟩ := gi_inv h
      refine va_iast hx hb hK hP hD hS 8 0 rfl rfl hi8 dX7_together_86 (fun H locs hP hD hS => ?_)
      replace hP : va_P D vwCl (wM k aM Mestimate Munit Msort Mwidth Mmany Mreading Mvariance (upd Mcovariance (((6 * v1) + v2).toNatClampNeg) v3) Mline Mformulas Mroot Mkind Mone Mother Msigns Mplace MleftOf MrightOf Mtype Msum Msign MsignAt Mproduct Mvalue Mslope Mexponent Mdrawn Mslopes Mfrom Mfactor thrown_5 Mlength Mmodels Mopen Mat Mrows Mx) H := hP
      replace hD : va_D A (wM k aM Mestimate Munit Msort Mwidth Mmany Mreading Mvariance (upd Mcovariance (((6 * v1) + v2).toNatClampNeg) v3) Mline Mformulas Mroot Mkind Mone Mother Msigns Mplace MleftOf MrightOf Mtype Msum Msign MsignAt Mproduct Mvalue Mslope Mexponent Mdrawn Mslopes Mfrom Mfactor thrown_5 Mlength Mmodels Mopen Mat Mrows Mx) := hD
      refine lv_aload_n hx hb dX7_together_87 rfl (lv_at hl 1 rfl) ?_
      refine va_get (D := D) (ci := 7) (v := .ref (aM 8)) (C := RX7) (T := TX7) (N := 37) hx hb hts iX7 hown hK hP 0 rfl rfl 8 (by decide) f31 (fun _ h9 => h9) rfl dX7_together_88 ?_
      refine lv_bipush (v := 6) hx hb dX7_together_91 (by decide) ?_
      refine lv_iload_n hx hb dX7_together_93 rfl (lv_at hl 3 rfl) ?_
      refine lv_imul hx hb dX7_together_94 ?_
      refine lv_iload_n hx hb dX7_together_95 rfl (lv_at hl 2 rfl) ?_
      refine lv_iadd hx hb dX7_together_96 ?_
      refine lv_iload_n hx hb dX7_together_97 rfl (lv_at hl 4 rfl) ?_
      obtain ⟨hi9, h⟩ := gi_inv h
      refine va_iast hx hb hK hP hD hS 8 0 rfl rfl hi9 dX7_together_98 (fun H locs hP hD hS => ?_)
      replace hP : va_P D vwCl (wM k aM Mestimate Munit Msort Mwidth Mmany Mreading Mvariance (upd (upd Mcovariance (((6 * v1) + v2).toNatClampNeg) v3) (((6 * v2) + v1).toNatClampNeg) v3) Mline Mformulas Mroot Mkind Mone Mother Msigns Mplace MleftOf MrightOf Mtype Msum Msign MsignAt Mproduct Mvalue Mslope Mexponent Mdrawn Mslopes Mfrom Mfactor thrown_5 Mlength Mmodels Mopen Mat Mrows Mx) H := hP
      replace hD : va_D A (wM k aM Mestimate Munit Msort Mwidth Mmany Mreading Mvariance (upd (upd Mcovariance (((6 * v1) + v2).toNatClampNeg) v3) (((6 * v2) + v1).toNatClampNeg) v3) Mline Mformulas Mroot Mkind Mone Mother Msigns Mplace MleftOf MrightOf Mtype Msum Msign MsignAt Mproduct Mvalue Mslope Mexponent Mdrawn Mslopes Mfrom Mfactor thrown_5 Mlength Mmodels Mopen Mat Mrows Mx) := hD
      refine lv_iload hx hb dX7_together_99 (lv_at hl 0 rfl) ?_
      have hP9 := hP
      have hD9 := hD
      have hS9 := hS
      subst hQ
      cases h
      exact W.iret hx hb hr (fun t ht hW => ⟨⟨_, (), rfl, rfl, by rw [ht]; exact hP9, va_K.moved hW.alike hK, hD9⟩, hS9.F ht⟩) hS9.2.2 dX7_together_101
    · replace h := sf_t c6 h
      refine lv_iconst (v := 0) hx hb dX7_together_60 (by decide) ?_
      have hP9 := hP
      have hD9 := hD
      have hS9 := hS
      subst hQ
      cases h
      exact W.iret hx hb hr (fun t ht hW => ⟨⟨_, (), rfl, rfl, by rw [ht]; exact hP9, va_K.moved hW.alike hK, hD9⟩, hS9.F ht⟩) hS9.2.2 dX7_together_61
  have BH_49 : ∀ (Mcovariance : Nat → Int32) (Mthrown : Int32), BX7_together_49 v1 v2 v3 Mcovariance Mthrown = some (r, RMcovariance, RMthrown) → ∀ (H : Heap) (locs : List Loc) (ls : Array Slot), va_P D vwCl (wM k aM Mestimate Munit Msort Mwidth Mmany Mreading Mvariance Mcovariance Mline Mformulas Mroot Mkind Mone Mother Msigns Mplace MleftOf MrightOf Mtype Msum Msign MsignAt Mproduct Mvalue Mslope Mexponent Mdrawn Mslopes Mfrom Mfactor Mthrown Mlength Mmodels Mopen Mat Mrows Mx) H → va_D A (wM k aM Mestimate Munit Msort Mwidth Mmany Mreading Mvariance Mcovariance Mline Mformulas Mroot Mkind Mone Mother Msigns Mplace MleftOf MrightOf Mtype Msum Msign MsignAt Mproduct Mvalue Mslope Mexponent Mdrawn Mslopes Mfrom Mfactor Mthrown Mlength Mmodels Mopen Mat Mrows Mx) → va_S A s.heap H locs → lv_has ls 6 [(0, .ref (aM 0)), (1, .int v1), (2, .int v2), (3, .int v3)] → W p l e rmX7_together s m args below meth c H locs 0 0 Q (F0 m 49 ls [.ref (aM 0)]) := by
    intro  Mcovariance Mthrown h H locs ls hP hD hS hl
    unfold BX7_together_49 at h
    refine lv_iconst (v := 2) hx hb dX7_together_49 (by decide) ?_
    refine lv_goto (tgt := 54) hx hb dX7_together_50 (by decide) ?_
    exact BH_54  _ _ _ h _ _ _ hP hD hS (lv_sub hl [0, 1, 2, 3] rfl)
  have BH_19 : ∀ (s0 : Int32) (Mcovariance : Nat → Int32) (Mthrown : Int32), BX7_together_19 v1 v2 v3 s0 Mcovariance Mthrown = some (r, RMcovariance, RMthrown) → ∀ (H : Heap) (locs : List Loc) (ls : Array Slot), va_P D vwCl (wM k aM Mestimate Munit Msort Mwidth Mmany Mreading Mvariance Mcovariance Mline Mformulas Mroot Mkind Mone Mother Msigns Mplace MleftOf MrightOf Mtype Msum Msign MsignAt Mproduct Mvalue Mslope Mexponent Mdrawn Mslopes Mfrom Mfactor Mthrown Mlength Mmodels Mopen Mat Mrows Mx) H → va_D A (wM k aM Mestimate Munit Msort Mwidth Mmany Mreading Mvariance Mcovariance Mline Mformulas Mroot Mkind Mone Mother Msigns Mplace MleftOf MrightOf Mtype Msum Msign MsignAt Mproduct Mvalue Mslope Mexponent Mdrawn Mslopes Mfrom Mfactor Mthrown Mlength Mmodels Mopen Mat Mrows Mx) → va_S A s.heap H locs → lv_has ls 6 [(0, .ref (aM 0)), (1, .int v1), (2, .int v2), (3, .int v3)] → W p l e rmX7_together s m args below meth c H locs 0 0 Q (F0 m 19 ls [.int s0]) := by
    intro  s0 Mcovariance Mthrown h H locs ls hP hD hS hl
    unfold BX7_together_19 at h
    refine lv_istore (lv' := [(4, .int s0), (0, .ref (aM 0)), (1, .int v1), (2, .int v2), (3, .int v3)]) hx hb dX7_together_19 hl (by decide) rfl (fun ls hl => ?_)
    refine lv_aload_n hx hb dX7_together_21 rfl (lv_at hl 1 rfl) ?_
    refine lv_iload hx hb dX7_together_22 (lv_at hl 0 rfl) ?_
    refine lv_if_ne (tgt := 31) hx hb dX7_together_24 (by decide) (fun c3 => ?_) (fun c3 => ?_)
    · replace h := sf_f c3 h
      refine lv_iload_n hx hb dX7_together_31 rfl (lv_at hl 2 rfl) ?_
      refine lv_iload_n hx hb dX7_together_32 rfl (lv_at hl 3 rfl) ?_
      refine lv_icmp_eq (tgt := 49) hx hb dX7_together_33 (by decide) (fun c4 => ?_) (fun c4 => ?_)
      · replace h := sf_t c4 h
        exact BH_49  _ _ h _ _ _ hP hD hS (lv_sub hl [1, 2, 3, 4] rfl)
      · replace h := sf_f c4 h
        refine lv_iload_n hx hb dX7_together_36 rfl (lv_at hl 4 rfl) ?_
        refine lv_sipush (v := -9999) hx hb dX7_together_37 (by decide) ?_
        refine lv_sipush (v := 9999) hx hb dX7_together_40 (by decide) ?_
        obtain ⟨r10, hc10, h⟩ := bnd1_inv h
        have hPc := hP.sub (ws' := ([] : va_W)) [] rfl
        have hDc := hD.sub (ws' := ([] : va_W)) [] rfl rfl
        have hFc := va_free (wc := ([] : va_W)) hD hS hA [] rfl
        refine xc_i (va_runS (As := [.int v3, .int ((-9999)), .int 9999]) (rest := [.ref (aM 0)]) ⟨hx, hb, hml, hown, hts⟩ (met_X7_isIn l D k  H.size v3 ((-9999)) 9999 r10 hc10) (va_cwS 3 hts gX7_together_X7_isIn rfl rfl rfl (by decide +kernel) ⟨Nat.le_of_ble_eq_true rfl, Nat.le_of_ble_eq_true rfl⟩) ⟨pw_blind, pw_start hPc hK hDc⟩ rfl rfl hl.1 rfl (lv_room (Nat.le_of_ble_eq_true rfl)) dX7_together_43 ⟨Nat.zero_le _, Nat.zero_le _⟩) hS hFc (fun H1 locs hP1 hD1 hk1 hS => ?_)
        obtain ⟨hP, hD⟩ := vj (ws' := (wM k aM Mestimate Munit Msort Mwidth Mmany Mreading Mvariance Mcovariance Mline Mformulas Mroot Mkind Mone Mother Msigns Mplace MleftOf MrightOf Mtype Msum Msign MsignAt Mproduct Mvalue Mslope Mexponent Mdrawn Mslopes Mfrom Mfactor Mthrown Mlength Mmodels Mopen Mat Mrows Mx)) (w1 := ([] : va_W)) hP hD [] [0, 1, 2, 3, 4, 5, 6, 7, 8, 9, 10, 11, 12, 13, 14, 15, 16, 17, 18, 19, 20, 21, 22, 23, 24, 25, 26, 27, 28, 29, 30] [0, 1, 2, 3, 4, 5, 6, 7, 8, 9, 10, 11, 12, 13, 14, 15, 16, 17, 18, 19, 20, 21, 22, 23, 24, 25, 26, 27, 28, 29, 30] rfl rfl rfl rfl rfl hk1 hFc hP1 hD1
        clear hP1 hD1 hk1 hFc
        generalize H1 = H at hP hS ⊢
        refine lv_if_ne (tgt := 53) hx hb dX7_together_46 (by decide) (fun c11 => ?_) (fun c11 => ?_)
        · replace h := sf_f c11 h
          refine lv_iconst (v := 0) hx hb dX7_together_53 (by decide) ?_
          exact BH_54  _ _ _ h _ _ _ hP hD hS (lv_sub hl [1, 2, 3, 4] rfl)
        · replace h := sf_t c11 h
          exact BH_49  _ _ h _ _ _ hP hD hS (lv_sub hl [1, 2, 3, 4] rfl)
    · replace h := sf_t c3 h
      refine lv_iconst (v := 1) hx hb dX7_together_27 (by decide) ?_
      refine lv_goto (tgt := 54) hx hb dX7_together_28 (by decide) ?_
      exact BH_54  _ _ _ h _ _ _ hP hD hS (lv_sub hl [1, 2, 3, 4] rfl)
  have BH_18 : ∀ (Mcovariance : Nat → Int32) (Mthrown : Int32), BX7_together_18 v1 v2 v3 Mcovariance Mthrown = some (r, RMcovariance, RMthrown) → ∀ (H : Heap) (locs : List Loc) (ls : Array Slot), va_P D vwCl (wM k aM Mestimate Munit Msort Mwidth Mmany Mreading Mvariance Mcovariance Mline Mformulas Mroot Mkind Mone Mother Msigns Mplace MleftOf MrightOf Mtype Msum Msign MsignAt Mproduct Mvalue Mslope Mexponent Mdrawn Mslopes Mfrom Mfactor Mthrown Mlength Mmodels Mopen Mat Mrows Mx) H → va_D A (wM k aM Mestimate Munit Msort Mwidth Mmany Mreading Mvariance Mcovariance Mline Mformulas Mroot Mkind Mone Mother Msigns Mplace MleftOf MrightOf Mtype Msum Msign MsignAt Mproduct Mvalue Mslope Mexponent Mdrawn Mslopes Mfrom Mfactor Mthrown Mlength Mmodels Mopen Mat Mrows Mx) → va_S A s.heap H locs → lv_has ls 6 [(0, .ref (aM 0)), (1, .int v1), (2, .int v2), (3, .int v3)] → W p l e rmX7_together s m args below meth c H locs 0 0 Q (F0 m 18 ls []) := by
    intro  Mcovariance Mthrown h H locs ls hP hD hS hl
    unfold BX7_together_18 at h
    refine lv_iconst (v := 0) hx hb dX7_together_18 (by decide) ?_
    exact BH_19  _ _ _ h _ _ _ hP hD hS (lv_sub hl [0, 1, 2, 3] rfl)
  suffices main : ∀ (H : Heap) (locs : List Loc) (ls : Array Slot), va_P D vwCl (wM k aM Mestimate Munit Msort Mwidth Mmany Mreading Mvariance Mcovariance Mline Mformulas Mroot Mkind Mone Mother Msigns Mplace MleftOf MrightOf Mtype Msum Msign MsignAt Mproduct Mvalue Mslope Mexponent Mdrawn Mslopes Mfrom Mfactor Mthrown Mlength Mmodels Mopen Mat Mrows Mx) H → va_D A (wM k aM Mestimate Munit Msort Mwidth Mmany Mreading Mvariance Mcovariance Mline Mformulas Mroot Mkind Mone Mother Msigns Mplace MleftOf MrightOf Mtype Msum Msign MsignAt Mproduct Mvalue Mslope Mexponent Mdrawn Mslopes Mfrom Mfactor Mthrown Mlength Mmodels Mopen Mat Mrows Mx) → va_S A s.heap H locs → lv_has ls 6 [(0, .ref (aM 0)), (1, .int v1), (2, .int v2), (3, .int v3)] → W p l e rmX7_together s m args below meth c H locs 0 0 Q (F0 m 0 ls []) from main _ _ _ hP hD hS hl
  clear hP hD hS hl ls hAe
  intro H locs ls hP hD hS hl
  refine lv_iload_n hx hb dX7_together_0 rfl (lv_at hl 1 rfl) ?_
  obtain ⟨r1, hc1, h⟩ := bnd1_inv h
  have hPc := hP.sub (ws' := ([] : va_W)) [] rfl
  have hDc := hD.sub (ws' := ([] : va_W)) [] rfl rfl
  have hFc := va_free (wc := ([] : va_W)) hD hS hA [] rfl
  refine xc_i (va_runS (As := [.int v1]) (rest := []) ⟨hx, hb, hml, hown, hts⟩ (met_X7_isInput l D k  H.size v1 r1 hc1) (va_cwS 1 hts gX7_together_X7_isInput rfl rfl rfl (by decide +kernel) ⟨Nat.le_of_ble_eq_true rfl, Nat.le_of_ble_eq_true rfl⟩) ⟨pw_blind, pw_start hPc hK hDc⟩ rfl rfl hl.1 rfl (lv_room (Nat.le_of_ble_eq_true rfl)) dX7_together_1 ⟨Nat.zero_le _, Nat.zero_le _⟩) hS hFc (fun H1 locs hP1 hD1 hk1 hS => ?_)
  obtain ⟨hP, hD⟩ := vj (ws' := (wM k aM Mestimate Munit Msort Mwidth Mmany Mreading Mvariance Mcovariance Mline Mformulas Mroot Mkind Mone Mother Msigns Mplace MleftOf MrightOf Mtype Msum Msign MsignAt Mproduct Mvalue Mslope Mexponent Mdrawn Mslopes Mfrom Mfactor Mthrown Mlength Mmodels Mopen Mat Mrows Mx)) (w1 := ([] : va_W)) hP hD [] [0, 1, 2, 3, 4, 5, 6, 7, 8, 9, 10, 11, 12, 13, 14, 15, 16, 17, 18, 19, 20, 21, 22, 23, 24, 25, 26, 27, 28, 29, 30] [0, 1, 2, 3, 4, 5, 6, 7, 8, 9, 10, 11, 12, 13, 14, 15, 16, 17, 18, 19, 20, 21, 22, 23, 24, 25, 26, 27, 28, 29, 30] rfl rfl rfl rfl rfl hk1 hFc hP1 hD1
  clear hP1 hD1 hk1 hFc
  generalize H1 = H at hP hS ⊢
  refine lv_if_eq (tgt := 18) hx hb dX7_together_4 (by decide) (fun c2 => ?_) (fun c2 => ?_)
  · replace h := sf_t c2 h
    exact BH_18  _ _ h _ _ _ hP hD hS (lv_sub hl [0, 1, 2, 3] rfl)
  · replace h := sf_f c2 h
    refine lv_iload_n hx hb dX7_together_7 rfl (lv_at hl 2 rfl) ?_
    obtain ⟨r12, hc12, h⟩ := bnd1_inv h
    have hPc := hP.sub (ws' := ([] : va_W)) [] rfl
    have hDc := hD.sub (ws' := ([] : va_W)) [] rfl rfl
    have hFc := va_free (wc := ([] : va_W)) hD hS hA [] rfl
    refine xc_i (va_runS (As := [.int v2]) (rest := []) ⟨hx, hb, hml, hown, hts⟩ (met_X7_isInput l D k  H.size v2 r12 hc12) (va_cwS 1 hts gX7_together_X7_isInput rfl rfl rfl (by decide +kernel) ⟨Nat.le_of_ble_eq_true rfl, Nat.le_of_ble_eq_true rfl⟩) ⟨pw_blind, pw_start hPc hK hDc⟩ rfl rfl hl.1 rfl (lv_room (Nat.le_of_ble_eq_true rfl)) dX7_together_8 ⟨Nat.zero_le _, Nat.zero_le _⟩) hS hFc (fun H1 locs hP1 hD1 hk1 hS => ?_)
    obtain ⟨hP, hD⟩ := vj (ws' := (wM k aM Mestimate Munit Msort Mwidth Mmany Mreading Mvariance Mcovariance Mline Mformulas Mroot Mkind Mone Mother Msigns Mplace MleftOf MrightOf Mtype Msum Msign MsignAt Mproduct Mvalue Mslope Mexponent Mdrawn Mslopes Mfrom Mfactor Mthrown Mlength Mmodels Mopen Mat Mrows Mx)) (w1 := ([] : va_W)) hP hD [] [0, 1, 2, 3, 4, 5, 6, 7, 8, 9, 10, 11, 12, 13, 14, 15, 16, 17, 18, 19, 20, 21, 22, 23, 24, 25, 26, 27, 28, 29, 30] [0, 1, 2, 3, 4, 5, 6, 7, 8, 9, 10, 11, 12, 13, 14, 15, 16, 17, 18, 19, 20, 21, 22, 23, 24, 25, 26, 27, 28, 29, 30] rfl rfl rfl rfl rfl hk1 hFc hP1 hD1
    clear hP1 hD1 hk1 hFc
    generalize H1 = H at hP hS ⊢
    refine lv_if_eq (tgt := 18) hx hb dX7_together_11 (by decide) (fun c13 => ?_) (fun c13 => ?_)
    · replace h := sf_t c13 h
      exact BH_18  _ _ h _ _ _ hP hD hS (lv_sub hl [0, 1, 2, 3] rfl)
    · replace h := sf_f c13 h
      refine lv_iconst (v := 1) hx hb dX7_together_14 (by decide) ?_
      refine lv_goto (tgt := 19) hx hb dX7_together_15 (by decide) ?_
      exact BH_19  _ _ _ h _ _ _ hP hD hS (lv_sub hl [0, 1, 2, 3] rfl)
def fX7_degreesOf (v1 : Int32) (Msort : Nat → Int32) (Mmany : Nat → Int32) : Option (Int32) := gi v1 6 ((if (Msort v1.toNatClampNeg) = 4 then gi v1 6 (some ((Mmany v1.toNatClampNeg) - 1)) else some (0)))
abbrev rmX7_degreesOf : Room := { frames := 0, cells := 0, slots := 0, locals := 0 }
set_option maxHeartbeats 4000000 in
set_option maxRecDepth 100000 in
theorem met_X7_degreesOf (l : Launch) (D : va_G) (k : Nat → ClassId)  (aM : Nat → Nat) (sz : Nat) (Mestimate : Nat → Int32) (Munit : Nat → Int32) (Msort : Nat → Int32) (Mwidth : Nat → Int32) (Mmany : Nat → Int32) (Mreading : Nat → Int32) (Mvariance : Nat → Int32) (Mcovariance : Nat → Int32) (Mline : Nat → Int32) (Mformulas : Nat → Int32) (Mroot : Nat → Int32) (Mkind : Nat → Int32) (Mone : Nat → Int32) (Mother : Nat → Int32) (Msigns : Nat → Int32) (Mplace : Nat → Int32) (MleftOf : Nat → Int32) (MrightOf : Nat → Int32) (Mtype : Nat → Int32) (Msum : Nat → Int32) (Msign : Nat → Int32) (MsignAt : Nat → Int32) (Mproduct : Nat → Int32) (Mvalue : Nat → Int64) (Mslope : Nat → Int64) (Mexponent : Nat → Int32) (Mdrawn : Nat → Int32) (Mslopes : Nat → Int64) (Mfrom : Nat → Int32) (Mfactor : Nat → Int32) (Mthrown : Int32) (Mlength : Int32) (Mmodels : Int32) (Mopen : Int32) (Mat : Int32) (Mrows : Int32) (Mx : Int32) (v1 : Int32) (r : Int32) (h : fX7_degreesOf v1 Msort Mmany = some r) : Met l yX7_degreesOf wsX7_degreesOf rmX7_degreesOf (va_Pc [.ref (aM 0), .int v1] (PreW D k (wM k aM Mestimate Munit Msort Mwidth Mmany Mreading Mvariance Mcovariance Mline Mformulas Mroot Mkind Mone Mother Msigns Mplace MleftOf MrightOf Mtype Msum Msign MsignAt Mproduct Mvalue Mslope Mexponent Mdrawn Mslopes Mfrom Mfactor Mthrown Mlength Mmodels Mopen Mat Mrows Mx) sz)) (va_Qi (fun r9 (_ : Unit) => r9 = r) (fun _ t => PostW D k (va_A (wM k aM Mestimate Munit Msort Mwidth Mmany Mreading Mvariance Mcovariance Mline Mformulas Mroot Mkind Mone Mother Msigns Mplace MleftOf MrightOf Mtype Msum Msign MsignAt Mproduct Mvalue Mslope Mexponent Mdrawn Mslopes Mfrom Mfactor Mthrown Mlength Mmodels Mopen Mat Mrows Mx) sz) (wM k aM Mestimate Munit Msort Mwidth Mmany Mreading Mvariance Mcovariance Mline Mformulas Mroot Mkind Mone Mother Msigns Mplace MleftOf MrightOf Mtype Msum Msign MsignAt Mproduct Mvalue Mslope Mexponent Mdrawn Mslopes Mfrom Mfactor Mthrown Mlength Mmodels Mopen Mat Mrows Mx) t) (va_A (wM k aM Mestimate Munit Msort Mwidth Mmany Mreading Mvariance Mcovariance Mline Mformulas Mroot Mkind Mone Mother Msigns Mplace MleftOf MrightOf Mtype Msum Msign MsignAt Mproduct Mvalue Mslope Mexponent Mdrawn Mslopes Mfrom Mfactor Mthrown Mlength Mmodels Mopen Mat Mrows Mx) sz)) 0 0 (va_A (wM k aM Mestimate Munit Msort Mwidth Mmany Mreading Mvariance Mcovariance Mline Mformulas Mroot Mkind Mone Mother Msigns Mplace MleftOf MrightOf Mtype Msum Msign MsignAt Mproduct Mvalue Mslope Mexponent Mdrawn Mslopes Mfrom Mfactor Mthrown Mlength Mmodels Mopen Mat Mrows Mx) sz) := by
  refine Met.ofW (cc := cX7_degreesOf) (maxL := 2) (ret := (some .int)) (by decide) rfl ?_
  intro p e s m args below meth c s₁ B hml hv
  obtain ⟨hav, hsz, hP, hK, hD0⟩ := hv
  have hx := B.exec
  have hb := B.bytes
  have hr := B.returns
  have hts := atoms_spec (ws := wsX7_degreesOf) B.pre
  have hown : s.vm.findClass RX7 = some m.cls := findClass_of_methodNamed B.named
  have hlocks := B.notSynchronized
  subst hsz
  have hD := hD0.self (sz := s.heap.size)
  clear hD0
  generalize hAe : va_A (wM k aM Mestimate Munit Msort Mwidth Mmany Mreading Mvariance Mcovariance Mline Mformulas Mroot Mkind Mone Mother Msigns Mplace MleftOf MrightOf Mtype Msum Msign MsignAt Mproduct Mvalue Mslope Mexponent Mdrawn Mslopes Mfrom Mfactor Mthrown Mlength Mmodels Mopen Mat Mrows Mx) s.heap.size = A at hD ⊢
  have hA : ∀ q : Nat, s.heap.size ≤ q → A q := fun q h => by rw [← hAe]; exact Or.inr h
  have hS : va_S A s.heap s.heap [] := va_S.rf
  have hl := lv_entry ([.ref (aM 0), .int v1]) (n := 2) (Nat.le_of_ble_eq_true rfl)
  rw [show entryFrame m args 2 = entryFrame m ([.ref (aM 0), .int v1] : List Value).toArray 2 from by rw [hav], lg_entry_eq]
  generalize (lg_sl ([.ref (aM 0), .int v1]) ++ List.replicate (2 - (lg_sl ([.ref (aM 0), .int v1])).length) Slot.unset).toArray = ls at hl ⊢
  replace hl : lv_has ls 2 [(0, .ref (aM 0)), (1, .int v1)] := hl
  have f16 := hts (.fieldLink RX7 16 "UncertainBookModel" "sort" "[I") (by decide +kernel)
  have f22 := hts (.fieldLink RX7 22 "UncertainBookModel" "many" "[I") (by decide +kernel)
  have iX7 : ∀ w ∈ u_ws RX7 TX7 37, w ∈ wsX7_degreesOf := by decide +kernel
  refine w_q (fun Q hQ => ?_)
  unfold fX7_degreesOf at h
  show W p l e rmX7_degreesOf s m args below meth c s.heap [] 0 0 Q (F0 m 0 ls [])
  suffices main : ∀ (H : Heap) (locs : List Loc) (ls : Array Slot), va_P D vwCl (wM k aM Mestimate Munit Msort Mwidth Mmany Mreading Mvariance Mcovariance Mline Mformulas Mroot Mkind Mone Mother Msigns Mplace MleftOf MrightOf Mtype Msum Msign MsignAt Mproduct Mvalue Mslope Mexponent Mdrawn Mslopes Mfrom Mfactor Mthrown Mlength Mmodels Mopen Mat Mrows Mx) H → va_D A (wM k aM Mestimate Munit Msort Mwidth Mmany Mreading Mvariance Mcovariance Mline Mformulas Mroot Mkind Mone Mother Msigns Mplace MleftOf MrightOf Mtype Msum Msign MsignAt Mproduct Mvalue Mslope Mexponent Mdrawn Mslopes Mfrom Mfactor Mthrown Mlength Mmodels Mopen Mat Mrows Mx) → va_S A s.heap H locs → lv_has ls 2 [(0, .ref (aM 0)), (1, .int v1)] → W p l e rmX7_degreesOf s m args below meth c H locs 0 0 Q (F0 m 0 ls []) from main _ _ _ hP hD hS hl
  clear hP hD hS hl ls hAe
  intro H locs ls hP hD hS hl
  refine lv_aload_n hx hb dX7_degreesOf_0 rfl (lv_at hl 0 rfl) ?_
  refine va_get (D := D) (ci := 7) (v := .ref (aM 3)) (C := RX7) (T := TX7) (N := 37) hx hb hts iX7 hown hK hP 0 rfl rfl 3 (by decide) f16 (fun _ h9 => h9) rfl dX7_degreesOf_1 ?_
  refine lv_iload_n hx hb dX7_degreesOf_4 rfl (lv_at hl 1 rfl) ?_
  obtain ⟨hi1, h⟩ := gi_inv h
  refine va_iald hx hb hK hP 3 0 rfl rfl hi1 dX7_degreesOf_5 ?_
  refine lv_iconst (v := 4) hx hb dX7_degreesOf_6 (by decide) ?_
  refine lv_icmp_ne (tgt := 21) hx hb dX7_degreesOf_7 (by decide) (fun c2 => ?_) (fun c2 => ?_)
  · replace h := sf_f c2 h
    refine lv_iconst (v := 0) hx hb dX7_degreesOf_21 (by decide) ?_
    have hP9 := hP
    have hD9 := hD
    have hS9 := hS
    subst hQ
    cases h
    exact W.iret hx hb hr (fun t ht hW => ⟨⟨_, (), rfl, rfl, by rw [ht]; exact hP9, va_K.moved hW.alike hK, hD9⟩, hS9.F ht⟩) hS9.2.2 dX7_degreesOf_22
  · replace h := sf_t c2 h
    refine lv_aload_n hx hb dX7_degreesOf_10 rfl (lv_at hl 0 rfl) ?_
    refine va_get (D := D) (ci := 7) (v := .ref (aM 5)) (C := RX7) (T := TX7) (N := 37) hx hb hts iX7 hown hK hP 0 rfl rfl 5 (by decide) f22 (fun _ h9 => h9) rfl dX7_degreesOf_11 ?_
    refine lv_iload_n hx hb dX7_degreesOf_14 rfl (lv_at hl 1 rfl) ?_
    obtain ⟨hi3, h⟩ := gi_inv h
    refine va_iald hx hb hK hP 5 0 rfl rfl hi3 dX7_degreesOf_15 ?_
    refine lv_iconst (v := 1) hx hb dX7_degreesOf_16 (by decide) ?_
    refine lv_isub hx hb dX7_degreesOf_17 ?_
    refine lv_goto (tgt := 22) hx hb dX7_degreesOf_18 (by decide) ?_
    have hP9 := hP
    have hD9 := hD
    have hS9 := hS
    subst hQ
    cases h
    exact W.iret hx hb hr (fun t ht hW => ⟨⟨_, (), rfl, rfl, by rw [ht]; exact hP9, va_K.moved hW.alike hK, hD9⟩, hS9.F ht⟩) hS9.2.2 dX7_degreesOf_22
def BX7_input_26 (Mestimate : Nat → Int32) (Msort : Nat → Int32) (Mwidth : Nat → Int32) (Mmany : Nat → Int32) (Mvariance : Nat → Int32) (v1 : Int32) (v2 : Int32)  (s1 : Int32) (Mthrown : Int32) : Option (Int32 × Int32) := bnd2 (fX7_holds s1 Mthrown) (fun r5 thrown_5 => (if r5 = 0 then some (0, thrown_5) else (if v2 = 3 then bnd1 (fX7_degreesOf v1 Msort Mmany) (fun r18 => some (r18, thrown_5)) else (if v2 = 0 then gi v1 6 (some (Mestimate v1.toNatClampNeg, thrown_5)) else (if v2 = 1 then gi v1 6 (some (Mvariance v1.toNatClampNeg, thrown_5)) else (if v2 = 2 then gi v1 6 (some (Msort v1.toNatClampNeg, thrown_5)) else gi v1 6 ((if (Msort v1.toNatClampNeg) = 4 then gi v1 6 (some (Mmany v1.toNatClampNeg, thrown_5)) else gi v1 6 (some (Mwidth v1.toNatClampNeg, thrown_5))))))))))
def fX7_input (v1 : Int32) (v2 : Int32) (Mestimate : Nat → Int32) (Msort : Nat → Int32) (Mwidth : Nat → Int32) (Mmany : Nat → Int32) (Mvariance : Nat → Int32) (Mthrown : Int32) : Option (Int32 × Int32) := bnd1 (fX7_isInput v1) (fun r1 => (if r1 = 0 then BX7_input_26 Mestimate Msort Mwidth Mmany Mvariance v1 v2 1 Mthrown else bnd1 (fX7_isIn v2 0 4) (fun r3 => (if r3 = 0 then BX7_input_26 Mestimate Msort Mwidth Mmany Mvariance v1 v2 2 Mthrown else BX7_input_26 Mestimate Msort Mwidth Mmany Mvariance v1 v2 0 Mthrown))))
abbrev rmX7_input : Room := { frames := 2, cells := 0, slots := 0, locals := 42 }
set_option maxHeartbeats 4000000 in
set_option maxRecDepth 100000 in
theorem met_X7_input (l : Launch) (D : va_G) (k : Nat → ClassId)  (aM : Nat → Nat) (sz : Nat) (Mestimate : Nat → Int32) (Munit : Nat → Int32) (Msort : Nat → Int32) (Mwidth : Nat → Int32) (Mmany : Nat → Int32) (Mreading : Nat → Int32) (Mvariance : Nat → Int32) (Mcovariance : Nat → Int32) (Mline : Nat → Int32) (Mformulas : Nat → Int32) (Mroot : Nat → Int32) (Mkind : Nat → Int32) (Mone : Nat → Int32) (Mother : Nat → Int32) (Msigns : Nat → Int32) (Mplace : Nat → Int32) (MleftOf : Nat → Int32) (MrightOf : Nat → Int32) (Mtype : Nat → Int32) (Msum : Nat → Int32) (Msign : Nat → Int32) (MsignAt : Nat → Int32) (Mproduct : Nat → Int32) (Mvalue : Nat → Int64) (Mslope : Nat → Int64) (Mexponent : Nat → Int32) (Mdrawn : Nat → Int32) (Mslopes : Nat → Int64) (Mfrom : Nat → Int32) (Mfactor : Nat → Int32) (Mthrown : Int32) (Mlength : Int32) (Mmodels : Int32) (Mopen : Int32) (Mat : Int32) (Mrows : Int32) (Mx : Int32) (v1 : Int32) (v2 : Int32) (r : Int32) (RMthrown : Int32) (h : fX7_input v1 v2 Mestimate Msort Mwidth Mmany Mvariance Mthrown = some (r, RMthrown)) : Met l yX7_input wsX7_input rmX7_input (va_Pc [.ref (aM 0), .int v1, .int v2] (PreW D k (wM k aM Mestimate Munit Msort Mwidth Mmany Mreading Mvariance Mcovariance Mline Mformulas Mroot Mkind Mone Mother Msigns Mplace MleftOf MrightOf Mtype Msum Msign MsignAt Mproduct Mvalue Mslope Mexponent Mdrawn Mslopes Mfrom Mfactor Mthrown Mlength Mmodels Mopen Mat Mrows Mx) sz)) (va_Qi (fun r9 (_ : Unit) => r9 = r) (fun _ t => PostW D k (va_A (wM k aM Mestimate Munit Msort Mwidth Mmany Mreading Mvariance Mcovariance Mline Mformulas Mroot Mkind Mone Mother Msigns Mplace MleftOf MrightOf Mtype Msum Msign MsignAt Mproduct Mvalue Mslope Mexponent Mdrawn Mslopes Mfrom Mfactor Mthrown Mlength Mmodels Mopen Mat Mrows Mx) sz) (wM k aM Mestimate Munit Msort Mwidth Mmany Mreading Mvariance Mcovariance Mline Mformulas Mroot Mkind Mone Mother Msigns Mplace MleftOf MrightOf Mtype Msum Msign MsignAt Mproduct Mvalue Mslope Mexponent Mdrawn Mslopes Mfrom Mfactor RMthrown Mlength Mmodels Mopen Mat Mrows Mx) t) (va_A (wM k aM Mestimate Munit Msort Mwidth Mmany Mreading Mvariance Mcovariance Mline Mformulas Mroot Mkind Mone Mother Msigns Mplace MleftOf MrightOf Mtype Msum Msign MsignAt Mproduct Mvalue Mslope Mexponent Mdrawn Mslopes Mfrom Mfactor Mthrown Mlength Mmodels Mopen Mat Mrows Mx) sz)) 0 0 (va_A (wM k aM Mestimate Munit Msort Mwidth Mmany Mreading Mvariance Mcovariance Mline Mformulas Mroot Mkind Mone Mother Msigns Mplace MleftOf MrightOf Mtype Msum Msign MsignAt Mproduct Mvalue Mslope Mexponent Mdrawn Mslopes Mfrom Mfactor Mthrown Mlength Mmodels Mopen Mat Mrows Mx) sz) := by
  refine Met.ofW (cc := cX7_input) (maxL := 3) (ret := (some .int)) (by decide) rfl ?_
  intro p e s m args below meth c s₁ B hml hv
  obtain ⟨hav, hsz, hP, hK, hD0⟩ := hv
  have hx := B.exec
  have hb := B.bytes
  have hr := B.returns
  have hts := atoms_spec (ws := wsX7_input) B.pre
  have hown : s.vm.findClass RX7 = some m.cls := findClass_of_methodNamed B.named
  have hlocks := B.notSynchronized
  subst hsz
  have hD := hD0.self (sz := s.heap.size)
  clear hD0
  generalize hAe : va_A (wM k aM Mestimate Munit Msort Mwidth Mmany Mreading Mvariance Mcovariance Mline Mformulas Mroot Mkind Mone Mother Msigns Mplace MleftOf MrightOf Mtype Msum Msign MsignAt Mproduct Mvalue Mslope Mexponent Mdrawn Mslopes Mfrom Mfactor Mthrown Mlength Mmodels Mopen Mat Mrows Mx) s.heap.size = A at hD ⊢
  have hA : ∀ q : Nat, s.heap.size ≤ q → A q := fun q h => by rw [← hAe]; exact Or.inr h
  have hS : va_S A s.heap s.heap [] := va_S.rf
  have hl := lv_entry ([.ref (aM 0), .int v1, .int v2]) (n := 3) (Nat.le_of_ble_eq_true rfl)
  rw [show entryFrame m args 3 = entryFrame m ([.ref (aM 0), .int v1, .int v2] : List Value).toArray 3 from by rw [hav], lg_entry_eq]
  generalize (lg_sl ([.ref (aM 0), .int v1, .int v2]) ++ List.replicate (3 - (lg_sl ([.ref (aM 0), .int v1, .int v2])).length) Slot.unset).toArray = ls at hl ⊢
  replace hl : lv_has ls 3 [(0, .ref (aM 0)), (1, .int v1), (2, .int v2)] := hl
  have f7 := hts (.fieldLink RX7 7 "UncertainBookModel" "estimate" "[I") (by decide +kernel)
  have f16 := hts (.fieldLink RX7 16 "UncertainBookModel" "sort" "[I") (by decide +kernel)
  have f19 := hts (.fieldLink RX7 19 "UncertainBookModel" "width" "[I") (by decide +kernel)
  have f22 := hts (.fieldLink RX7 22 "UncertainBookModel" "many" "[I") (by decide +kernel)
  have f28 := hts (.fieldLink RX7 28 "UncertainBookModel" "variance" "[I") (by decide +kernel)
  have iX7 : ∀ w ∈ u_ws RX7 TX7 37, w ∈ wsX7_input := by decide +kernel
  refine w_q (fun Q hQ => ?_)
  unfold fX7_input at h
  show W p l e rmX7_input s m args below meth c s.heap [] 0 0 Q (F0 m 0 ls [])
  have BH_26 : ∀ (s1 : Int32) (Mthrown : Int32), BX7_input_26 Mestimate Msort Mwidth Mmany Mvariance v1 v2 s1 Mthrown = some (r, RMthrown) → ∀ (H : Heap) (locs : List Loc) (ls : Array Slot), va_P D vwCl (wM k aM Mestimate Munit Msort Mwidth Mmany Mreading Mvariance Mcovariance Mline Mformulas Mroot Mkind Mone Mother Msigns Mplace MleftOf MrightOf Mtype Msum Msign MsignAt Mproduct Mvalue Mslope Mexponent Mdrawn Mslopes Mfrom Mfactor Mthrown Mlength Mmodels Mopen Mat Mrows Mx) H → va_D A (wM k aM Mestimate Munit Msort Mwidth Mmany Mreading Mvariance Mcovariance Mline Mformulas Mroot Mkind Mone Mother Msigns Mplace MleftOf MrightOf Mtype Msum Msign MsignAt Mproduct Mvalue Mslope Mexponent Mdrawn Mslopes Mfrom Mfactor Mthrown Mlength Mmodels Mopen Mat Mrows Mx) → va_S A s.heap H locs → lv_has ls 3 [(0, .ref (aM 0)), (1, .int v1), (2, .int v2)] → W p l e rmX7_input s m args below meth c H locs 0 0 Q (F0 m 26 ls [.int s1, .ref (aM 0)]) := by
    intro  s1 Mthrown h H locs ls hP hD hS hl
    unfold BX7_input_26 at h
    obtain ⟨r5, thrown_5, hc5, h⟩ := bnd2_inv h
    have hFc := va_free (wc := (wM k aM Mestimate Munit Msort Mwidth Mmany Mreading Mvariance Mcovariance Mline Mformulas Mroot Mkind Mone Mother Msigns Mplace MleftOf MrightOf Mtype Msum Msign MsignAt Mproduct Mvalue Mslope Mexponent Mdrawn Mslopes Mfrom Mfactor Mthrown Mlength Mmodels Mopen Mat Mrows Mx)) hD hS hA [0, 1, 2, 3, 4, 5, 6, 7, 8, 9, 10, 11, 12, 13, 14, 15, 16, 17, 18, 19, 20, 21, 22, 23, 24, 25, 26, 27, 28, 29, 30] rfl
    refine xc_i (va_runV (As := [.int s1]) (rest := []) ⟨hx, hb, hml, hown, hts⟩ (met_X7_holds l D k  aM H.size Mestimate Munit Msort Mwidth Mmany Mreading Mvariance Mcovariance Mline Mformulas Mroot Mkind Mone Mother Msigns Mplace MleftOf MrightOf Mtype Msum Msign MsignAt Mproduct Mvalue Mslope Mexponent Mdrawn Mslopes Mfrom Mfactor Mthrown Mlength Mmodels Mopen Mat Mrows Mx s1 r5 thrown_5 hc5) (cwV 1 hts gX7_input_X7_holds rfl rfl rfl (by decide +kernel) ⟨Nat.le_of_ble_eq_true rfl, Nat.le_of_ble_eq_true rfl⟩) ⟨pw_blind, va_recv hK hP (ci := 7) (q0 := 0) rfl rfl, pw_start hP hK hD⟩ rfl rfl hl.1 rfl (lv_room (Nat.le_of_ble_eq_true rfl)) dX7_input_26 ⟨Nat.zero_le _, Nat.zero_le _⟩) hS hFc (fun H1 locs hP1 hD1 hk1 hS => ?_)
    obtain ⟨hP, hD⟩ := vj_all hFc hP1 hD1
    clear hP1 hD1 hk1 hFc
    generalize H1 = H at hP hS ⊢
    refine lv_if_ne (tgt := 34) hx hb dX7_input_29 (by decide) (fun c6 => ?_) (fun c6 => ?_)
    · replace h := sf_f c6 h
      refine lv_iload_n hx hb dX7_input_34 rfl (lv_at hl 2 rfl) ?_
      refine lv_iconst (v := 3) hx hb dX7_input_35 (by decide) ?_
      refine lv_icmp_ne (tgt := 45) hx hb dX7_input_36 (by decide) (fun c7 => ?_) (fun c7 => ?_)
      · replace h := sf_f c7 h
        refine lv_iload_n hx hb dX7_input_45 rfl (lv_at hl 2 rfl) ?_
        refine lv_if_ne (tgt := 58) hx hb dX7_input_46 (by decide) (fun c8 => ?_) (fun c8 => ?_)
        · replace h := sf_f c8 h
          refine lv_iload_n hx hb dX7_input_58 rfl (lv_at hl 2 rfl) ?_
          refine lv_iconst (v := 1) hx hb dX7_input_59 (by decide) ?_
          refine lv_icmp_ne (tgt := 72) hx hb dX7_input_60 (by decide) (fun c9 => ?_) (fun c9 => ?_)
          · replace h := sf_f c9 h
            refine lv_iload_n hx hb dX7_input_72 rfl (lv_at hl 2 rfl) ?_
            refine lv_iconst (v := 2) hx hb dX7_input_73 (by decide) ?_
            refine lv_icmp_ne (tgt := 86) hx hb dX7_input_74 (by decide) (fun c10 => ?_) (fun c10 => ?_)
            · replace h := sf_f c10 h
              refine lv_aload_n hx hb dX7_input_86 rfl (lv_at hl 0 rfl) ?_
              refine va_get (D := D) (ci := 7) (v := .ref (aM 3)) (C := RX7) (T := TX7) (N := 37) hx hb hts iX7 hown hK hP 0 rfl rfl 3 (by decide) f16 (fun _ h9 => h9) rfl dX7_input_87 ?_
              refine lv_iload_n hx hb dX7_input_90 rfl (lv_at hl 1 rfl) ?_
              obtain ⟨hi11, h⟩ := gi_inv h
              refine va_iald hx hb hK hP 3 0 rfl rfl hi11 dX7_input_91 ?_
              refine lv_iconst (v := 4) hx hb dX7_input_92 (by decide) ?_
              refine lv_icmp_ne (tgt := 105) hx hb dX7_input_93 (by decide) (fun c12 => ?_) (fun c12 => ?_)
              · replace h := sf_f c12 h
                refine lv_aload_n hx hb dX7_input_105 rfl (lv_at hl 0 rfl) ?_
                refine va_get (D := D) (ci := 7) (v := .ref (aM 4)) (C := RX7) (T := TX7) (N := 37) hx hb hts iX7 hown hK hP 0 rfl rfl 4 (by decide) f19 (fun _ h9 => h9) rfl dX7_input_106 ?_
                refine lv_iload_n hx hb dX7_input_109 rfl (lv_at hl 1 rfl) ?_
                obtain ⟨hi13, h⟩ := gi_inv h
                refine va_iald hx hb hK hP 4 0 rfl rfl hi13 dX7_input_110 ?_
                have hP9 := hP
                have hD9 := hD
                have hS9 := hS
                subst hQ
                cases h
                exact W.iret hx hb hr (fun t ht hW => ⟨⟨_, (), rfl, rfl, by rw [ht]; exact hP9, va_K.moved hW.alike hK, hD9⟩, hS9.F ht⟩) hS9.2.2 dX7_input_111
              · replace h := sf_t c12 h
                refine lv_aload_n hx hb dX7_input_96 rfl (lv_at hl 0 rfl) ?_
                refine va_get (D := D) (ci := 7) (v := .ref (aM 5)) (C := RX7) (T := TX7) (N := 37) hx hb hts iX7 hown hK hP 0 rfl rfl 5 (by decide) f22 (fun _ h9 => h9) rfl dX7_input_97 ?_
                refine lv_iload_n hx hb dX7_input_100 rfl (lv_at hl 1 rfl) ?_
                obtain ⟨hi14, h⟩ := gi_inv h
                refine va_iald hx hb hK hP 5 0 rfl rfl hi14 dX7_input_101 ?_
                refine lv_goto (tgt := 111) hx hb dX7_input_102 (by decide) ?_
                have hP9 := hP
                have hD9 := hD
                have hS9 := hS
                subst hQ
                cases h
                exact W.iret hx hb hr (fun t ht hW => ⟨⟨_, (), rfl, rfl, by rw [ht]; exact hP9, va_K.moved hW.alike hK, hD9⟩, hS9.F ht⟩) hS9.2.2 dX7_input_111
            · replace h := sf_t c10 h
              refine lv_aload_n hx hb dX7_input_77 rfl (lv_at hl 0 rfl) ?_
              refine va_get (D := D) (ci := 7) (v := .ref (aM 3)) (C := RX7) (T := TX7) (N := 37) hx hb hts iX7 hown hK hP 0 rfl rfl 3 (by decide) f16 (fun _ h9 => h9) rfl dX7_input_78 ?_
              refine lv_iload_n hx hb dX7_input_81 rfl (lv_at hl 1 rfl) ?_
              obtain ⟨hi15, h⟩ := gi_inv h
              refine va_iald hx hb hK hP 3 0 rfl rfl hi15 dX7_input_82 ?_
              refine lv_goto (tgt := 111) hx hb dX7_input_83 (by decide) ?_
              have hP9 := hP
              have hD9 := hD
              have hS9 := hS
              subst hQ
              cases h
              exact W.iret hx hb hr (fun t ht hW => ⟨⟨_, (), rfl, rfl, by rw [ht]; exact hP9, va_K.moved hW.alike hK, hD9⟩, hS9.F ht⟩) hS9.2.2 dX7_input_111
          · replace h := sf_t c9 h
            refine lv_aload_n hx hb dX7_input_63 rfl (lv_at hl 0 rfl) ?_
            refine va_get (D := D) (ci := 7) (v := .ref (aM 7)) (C := RX7) (T := TX7) (N := 37) hx hb hts iX7 hown hK hP 0 rfl rfl 7 (by decide) f28 (fun _ h9 => h9) rfl dX7_input_64 ?_
            refine lv_iload_n hx hb dX7_input_67 rfl (lv_at hl 1 rfl) ?_
            obtain ⟨hi16, h⟩ := gi_inv h
            refine va_iald hx hb hK hP 7 0 rfl rfl hi16 dX7_input_68 ?_
            refine lv_goto (tgt := 111) hx hb dX7_input_69 (by decide) ?_
            have hP9 := hP
            have hD9 := hD
            have hS9 := hS
            subst hQ
            cases h
            exact W.iret hx hb hr (fun t ht hW => ⟨⟨_, (), rfl, rfl, by rw [ht]; exact hP9, va_K.moved hW.alike hK, hD9⟩, hS9.F ht⟩) hS9.2.2 dX7_input_111
        · replace h := sf_t c8 h
          refine lv_aload_n hx hb dX7_input_49 rfl (lv_at hl 0 rfl) ?_
          refine va_get (D := D) (ci := 7) (v := .ref (aM 1)) (C := RX7) (T := TX7) (N := 37) hx hb hts iX7 hown hK hP 0 rfl rfl 1 (by decide) f7 (fun _ h9 => h9) rfl dX7_input_50 ?_
          refine lv_iload_n hx hb dX7_input_53 rfl (lv_at hl 1 rfl) ?_
          obtain ⟨hi17, h⟩ := gi_inv h
          refine va_iald hx hb hK hP 1 0 rfl rfl hi17 dX7_input_54 ?_
          refine lv_goto (tgt := 111) hx hb dX7_input_55 (by decide) ?_
          have hP9 := hP
          have hD9 := hD
          have hS9 := hS
          subst hQ
          cases h
          exact W.iret hx hb hr (fun t ht hW => ⟨⟨_, (), rfl, rfl, by rw [ht]; exact hP9, va_K.moved hW.alike hK, hD9⟩, hS9.F ht⟩) hS9.2.2 dX7_input_111
      · replace h := sf_t c7 h
        refine lv_aload_n hx hb dX7_input_39 rfl (lv_at hl 0 rfl) ?_
        refine lv_iload_n hx hb dX7_input_40 rfl (lv_at hl 1 rfl) ?_
        obtain ⟨r18, hc18, h⟩ := bnd1_inv h
        have hFc := va_free (wc := (wM k aM Mestimate Munit Msort Mwidth Mmany Mreading Mvariance Mcovariance Mline Mformulas Mroot Mkind Mone Mother Msigns Mplace MleftOf MrightOf Mtype Msum Msign MsignAt Mproduct Mvalue Mslope Mexponent Mdrawn Mslopes Mfrom Mfactor thrown_5 Mlength Mmodels Mopen Mat Mrows Mx)) hD hS hA [0, 1, 2, 3, 4, 5, 6, 7, 8, 9, 10, 11, 12, 13, 14, 15, 16, 17, 18, 19, 20, 21, 22, 23, 24, 25, 26, 27, 28, 29, 30] rfl
        refine xc_i (va_runV (As := [.int v1]) (rest := []) ⟨hx, hb, hml, hown, hts⟩ (met_X7_degreesOf l D k  aM H.size Mestimate Munit Msort Mwidth Mmany Mreading Mvariance Mcovariance Mline Mformulas Mroot Mkind Mone Mother Msigns Mplace MleftOf MrightOf Mtype Msum Msign MsignAt Mproduct Mvalue Mslope Mexponent Mdrawn Mslopes Mfrom Mfactor thrown_5 Mlength Mmodels Mopen Mat Mrows Mx v1 r18 hc18) (cwV 1 hts gX7_input_X7_degreesOf rfl rfl rfl (by decide +kernel) ⟨Nat.le_of_ble_eq_true rfl, Nat.le_of_ble_eq_true rfl⟩) ⟨pw_blind, va_recv hK hP (ci := 7) (q0 := 0) rfl rfl, pw_start hP hK hD⟩ rfl rfl hl.1 rfl (lv_room (Nat.le_of_ble_eq_true rfl)) dX7_input_41 ⟨Nat.zero_le _, Nat.zero_le _⟩) hS hFc (fun H1 locs hP1 hD1 hk1 hS => ?_)
        obtain ⟨hP, hD⟩ := vj_all hFc hP1 hD1
        clear hP1 hD1 hk1 hFc
        generalize H1 = H at hP hS ⊢
        have hP9 := hP
        have hD9 := hD
        have hS9 := hS
        subst hQ
        cases h
        exact W.iret hx hb hr (fun t ht hW => ⟨⟨_, (), rfl, rfl, by rw [ht]; exact hP9, va_K.moved hW.alike hK, hD9⟩, hS9.F ht⟩) hS9.2.2 dX7_input_44
    · replace h := sf_t c6 h
      refine lv_iconst (v := 0) hx hb dX7_input_32 (by decide) ?_
      have hP9 := hP
      have hD9 := hD
      have hS9 := hS
      subst hQ
      cases h
      exact W.iret hx hb hr (fun t ht hW => ⟨⟨_, (), rfl, rfl, by rw [ht]; exact hP9, va_K.moved hW.alike hK, hD9⟩, hS9.F ht⟩) hS9.2.2 dX7_input_33
  suffices main : ∀ (H : Heap) (locs : List Loc) (ls : Array Slot), va_P D vwCl (wM k aM Mestimate Munit Msort Mwidth Mmany Mreading Mvariance Mcovariance Mline Mformulas Mroot Mkind Mone Mother Msigns Mplace MleftOf MrightOf Mtype Msum Msign MsignAt Mproduct Mvalue Mslope Mexponent Mdrawn Mslopes Mfrom Mfactor Mthrown Mlength Mmodels Mopen Mat Mrows Mx) H → va_D A (wM k aM Mestimate Munit Msort Mwidth Mmany Mreading Mvariance Mcovariance Mline Mformulas Mroot Mkind Mone Mother Msigns Mplace MleftOf MrightOf Mtype Msum Msign MsignAt Mproduct Mvalue Mslope Mexponent Mdrawn Mslopes Mfrom Mfactor Mthrown Mlength Mmodels Mopen Mat Mrows Mx) → va_S A s.heap H locs → lv_has ls 3 [(0, .ref (aM 0)), (1, .int v1), (2, .int v2)] → W p l e rmX7_input s m args below meth c H locs 0 0 Q (F0 m 0 ls []) from main _ _ _ hP hD hS hl
  clear hP hD hS hl ls hAe
  intro H locs ls hP hD hS hl
  refine lv_aload_n hx hb dX7_input_0 rfl (lv_at hl 0 rfl) ?_
  refine lv_iload_n hx hb dX7_input_1 rfl (lv_at hl 1 rfl) ?_
  obtain ⟨r1, hc1, h⟩ := bnd1_inv h
  have hPc := hP.sub (ws' := ([] : va_W)) [] rfl
  have hDc := hD.sub (ws' := ([] : va_W)) [] rfl rfl
  have hFc := va_free (wc := ([] : va_W)) hD hS hA [] rfl
  refine xc_i (va_runS (As := [.int v1]) (rest := [.ref (aM 0)]) ⟨hx, hb, hml, hown, hts⟩ (met_X7_isInput l D k  H.size v1 r1 hc1) (va_cwS 1 hts gX7_input_X7_isInput rfl rfl rfl (by decide +kernel) ⟨Nat.le_of_ble_eq_true rfl, Nat.le_of_ble_eq_true rfl⟩) ⟨pw_blind, pw_start hPc hK hDc⟩ rfl rfl hl.1 rfl (lv_room (Nat.le_of_ble_eq_true rfl)) dX7_input_2 ⟨Nat.zero_le _, Nat.zero_le _⟩) hS hFc (fun H1 locs hP1 hD1 hk1 hS => ?_)
  obtain ⟨hP, hD⟩ := vj (ws' := (wM k aM Mestimate Munit Msort Mwidth Mmany Mreading Mvariance Mcovariance Mline Mformulas Mroot Mkind Mone Mother Msigns Mplace MleftOf MrightOf Mtype Msum Msign MsignAt Mproduct Mvalue Mslope Mexponent Mdrawn Mslopes Mfrom Mfactor Mthrown Mlength Mmodels Mopen Mat Mrows Mx)) (w1 := ([] : va_W)) hP hD [] [0, 1, 2, 3, 4, 5, 6, 7, 8, 9, 10, 11, 12, 13, 14, 15, 16, 17, 18, 19, 20, 21, 22, 23, 24, 25, 26, 27, 28, 29, 30] [0, 1, 2, 3, 4, 5, 6, 7, 8, 9, 10, 11, 12, 13, 14, 15, 16, 17, 18, 19, 20, 21, 22, 23, 24, 25, 26, 27, 28, 29, 30] rfl rfl rfl rfl rfl hk1 hFc hP1 hD1
  clear hP1 hD1 hk1 hFc
  generalize H1 = H at hP hS ⊢
  refine lv_if_ne (tgt := 12) hx hb dX7_input_5 (by decide) (fun c2 => ?_) (fun c2 => ?_)
  · replace h := sf_f c2 h
    refine lv_iload_n hx hb dX7_input_12 rfl (lv_at hl 2 rfl) ?_
    refine lv_iconst (v := 0) hx hb dX7_input_13 (by decide) ?_
    refine lv_iconst (v := 4) hx hb dX7_input_14 (by decide) ?_
    obtain ⟨r3, hc3, h⟩ := bnd1_inv h
    have hPc := hP.sub (ws' := ([] : va_W)) [] rfl
    have hDc := hD.sub (ws' := ([] : va_W)) [] rfl rfl
    have hFc := va_free (wc := ([] : va_W)) hD hS hA [] rfl
    refine xc_i (va_runS (As := [.int v2, .int 0, .int 4]) (rest := [.ref (aM 0)]) ⟨hx, hb, hml, hown, hts⟩ (met_X7_isIn l D k  H.size v2 0 4 r3 hc3) (va_cwS 3 hts gX7_input_X7_isIn rfl rfl rfl (by decide +kernel) ⟨Nat.le_of_ble_eq_true rfl, Nat.le_of_ble_eq_true rfl⟩) ⟨pw_blind, pw_start hPc hK hDc⟩ rfl rfl hl.1 rfl (lv_room (Nat.le_of_ble_eq_true rfl)) dX7_input_15 ⟨Nat.zero_le _, Nat.zero_le _⟩) hS hFc (fun H1 locs hP1 hD1 hk1 hS => ?_)
    obtain ⟨hP, hD⟩ := vj (ws' := (wM k aM Mestimate Munit Msort Mwidth Mmany Mreading Mvariance Mcovariance Mline Mformulas Mroot Mkind Mone Mother Msigns Mplace MleftOf MrightOf Mtype Msum Msign MsignAt Mproduct Mvalue Mslope Mexponent Mdrawn Mslopes Mfrom Mfactor Mthrown Mlength Mmodels Mopen Mat Mrows Mx)) (w1 := ([] : va_W)) hP hD [] [0, 1, 2, 3, 4, 5, 6, 7, 8, 9, 10, 11, 12, 13, 14, 15, 16, 17, 18, 19, 20, 21, 22, 23, 24, 25, 26, 27, 28, 29, 30] [0, 1, 2, 3, 4, 5, 6, 7, 8, 9, 10, 11, 12, 13, 14, 15, 16, 17, 18, 19, 20, 21, 22, 23, 24, 25, 26, 27, 28, 29, 30] rfl rfl rfl rfl rfl hk1 hFc hP1 hD1
    clear hP1 hD1 hk1 hFc
    generalize H1 = H at hP hS ⊢
    refine lv_if_eq (tgt := 25) hx hb dX7_input_18 (by decide) (fun c4 => ?_) (fun c4 => ?_)
    · replace h := sf_t c4 h
      refine lv_iconst (v := 2) hx hb dX7_input_25 (by decide) ?_
      exact BH_26  _ _ h _ _ _ hP hD hS (lv_sub hl [0, 1, 2] rfl)
    · replace h := sf_f c4 h
      refine lv_iconst (v := 0) hx hb dX7_input_21 (by decide) ?_
      refine lv_goto (tgt := 26) hx hb dX7_input_22 (by decide) ?_
      exact BH_26  _ _ h _ _ _ hP hD hS (lv_sub hl [0, 1, 2] rfl)
  · replace h := sf_t c2 h
    refine lv_iconst (v := 1) hx hb dX7_input_8 (by decide) ?_
    refine lv_goto (tgt := 26) hx hb dX7_input_9 (by decide) ?_
    exact BH_26  _ _ h _ _ _ hP hD hS (lv_sub hl [0, 1, 2] rfl)
def BX7_type_94 (v1 : Int64) (K : Int32 → Int32 → Int32 → Int32 → (Nat → Int32) → Int32 → Int32 → Option (Int32 × (Nat → Int32) × Int32 × Int32)) (E102 : Int32 → Int32 → (Nat → Int32) → Int32 → Int32 → Option (Int32 × (Nat → Int32) × Int32 × Int32)) (v4 : Int32) (v5 : Int32) (v6 : Int32) (s0 : Int32) (s1 : Int32) (Mline : Nat → Int32) (Mthrown : Int32) (Mlength : Int32) : Option (Int32 × (Nat → Int32) × Int32 × Int32) := K (s0 + s1) v4 v5 (v6 + 1) Mline Mthrown Mlength
def BX7_type_81 (v1 : Int64) (K : Int32 → Int32 → Int32 → Int32 → (Nat → Int32) → Int32 → Int32 → Option (Int32 × (Nat → Int32) × Int32 × Int32)) (E102 : Int32 → Int32 → (Nat → Int32) → Int32 → Int32 → Option (Int32 × (Nat → Int32) × Int32 × Int32)) (v3 : Int32) (v4 : Int32) (v6 : Int32) (s0 : Int32) (Mline : Nat → Int32) (Mthrown : Int32) (Mlength : Int32) : Option (Int32 × (Nat → Int32) × Int32 × Int32) := (if s0 = 0 then BX7_type_94 v1 (K) E102 v4 s0 v6 v3 1 Mline Mthrown Mlength else BX7_type_94 v1 (K) E102 v4 s0 v6 v3 0 Mline Mthrown Mlength)
def BX7_type_76 (v1 : Int64) (K : Int32 → Int32 → Int32 → Int32 → (Nat → Int32) → Int32 → Int32 → Option (Int32 × (Nat → Int32) × Int32 × Int32)) (E102 : Int32 → Int32 → (Nat → Int32) → Int32 → Int32 → Option (Int32 × (Nat → Int32) × Int32 × Int32)) (v3 : Int32) (v4 : Int32) (v6 : Int32) (Mline : Nat → Int32) (Mthrown : Int32) (Mlength : Int32) : Option (Int32 × (Nat → Int32) × Int32 × Int32) := BX7_type_81 v1 (K) E102 v3 v4 v6 1 Mline Mthrown Mlength
def BX7_type_64 (v1 : Int64) (K : Int32 → Int32 → Int32 → Int32 → (Nat → Int32) → Int32 → Int32 → Option (Int32 × (Nat → Int32) × Int32 × Int32)) (E102 : Int32 → Int32 → (Nat → Int32) → Int32 → Int32 → Option (Int32 × (Nat → Int32) × Int32 × Int32)) (v3 : Int32) (v5 : Int32) (v6 : Int32) (v7 : Int32) (s0 : Int32) (Mline : Nat → Int32) (Mthrown : Int32) (Mlength : Int32) : Option (Int32 × (Nat → Int32) × Int32 × Int32) := (if v5 = 0 then (if v7 = 0 then BX7_type_76 v1 (K) E102 v3 s0 v6 Mline Mthrown Mlength else BX7_type_81 v1 (K) E102 v3 s0 v6 0 Mline Mthrown Mlength) else BX7_type_76 v1 (K) E102 v3 s0 v6 Mline Mthrown Mlength)
def BX7_type_63 (v1 : Int64) (K : Int32 → Int32 → Int32 → Int32 → (Nat → Int32) → Int32 → Int32 → Option (Int32 × (Nat → Int32) × Int32 × Int32)) (E102 : Int32 → Int32 → (Nat → Int32) → Int32 → Int32 → Option (Int32 × (Nat → Int32) × Int32 × Int32)) (v3 : Int32) (v5 : Int32) (v6 : Int32) (v7 : Int32) (Mline : Nat → Int32) (Mthrown : Int32) (Mlength : Int32) : Option (Int32 × (Nat → Int32) × Int32 × Int32) := BX7_type_64 v1 (K) E102 v3 v5 v6 v7 0 Mline Mthrown Mlength
def BX7_type_59 (v1 : Int64) (K : Int32 → Int32 → Int32 → Int32 → (Nat → Int32) → Int32 → Int32 → Option (Int32 × (Nat → Int32) × Int32 × Int32)) (E102 : Int32 → Int32 → (Nat → Int32) → Int32 → Int32 → Option (Int32 × (Nat → Int32) × Int32 × Int32)) (v3 : Int32) (v5 : Int32) (v6 : Int32) (v7 : Int32) (Mline : Nat → Int32) (Mthrown : Int32) (Mlength : Int32) : Option (Int32 × (Nat → Int32) × Int32 × Int32) := BX7_type_64 v1 (K) E102 v3 v5 v6 v7 1 Mline Mthrown Mlength
def LX7_type_11 (v1 : Int64) (E102 : Int32 → Int32 → (Nat → Int32) → Int32 → Int32 → Option (Int32 × (Nat → Int32) × Int32 × Int32)) : Nat → Int32 → Int32 → Int32 → Int32 → (Nat → Int32) → Int32 → Int32 → Option (Int32 × (Nat → Int32) × Int32 × Int32)
  | 0, _, _, _, _, _, _, _ => none
  | fuel + 1, v3, v4, v5, v6, Mline, Mthrown, Mlength => (if 8 ≤ v6 then E102 v3 v4 Mline Mthrown Mlength else (if v4 = 0 then BX7_type_63 v1 (LX7_type_11 v1 E102 fuel) E102 v3 v5 v6 (((jlshr v1 (8 * v6)).toInt32) &&& 255) Mline Mthrown Mlength else (if (((jlshr v1 (8 * v6)).toInt32) &&& 255) = 0 then BX7_type_59 v1 (LX7_type_11 v1 E102 fuel) E102 v3 v5 v6 (((jlshr v1 (8 * v6)).toInt32) &&& 255) Mline Mthrown Mlength else (if v5 = 0 then bnd1 (fX7_isIn (((jlshr v1 (8 * v6)).toInt32) &&& 255) 32 126) (fun r8 => (if r8 = 0 then BX7_type_63 v1 (LX7_type_11 v1 E102 fuel) E102 v3 v5 v6 (((jlshr v1 (8 * v6)).toInt32) &&& 255) Mline Mthrown Mlength else BX7_type_59 v1 (LX7_type_11 v1 E102 fuel) E102 v3 v5 v6 (((jlshr v1 (8 * v6)).toInt32) &&& 255) Mline Mthrown Mlength)) else BX7_type_63 v1 (LX7_type_11 v1 E102 fuel) E102 v3 v5 v6 (((jlshr v1 (8 * v6)).toInt32) &&& 255) Mline Mthrown Mlength))))
def LX7_type_139 (v1 : Int64) (E182 : (Nat → Int32) → Int32 → Int32 → Option (Int32 × (Nat → Int32) × Int32 × Int32)) : Nat → Int32 → Int32 → (Nat → Int32) → Int32 → Int32 → Option (Int32 × (Nat → Int32) × Int32 × Int32)
  | 0, _, _, _, _, _ => none
  | fuel + 1, v3, v6, Mline, Mthrown, Mlength => (if v3 ≤ v6 then E182 Mline Mthrown Mlength else gi Mlength 64 (LX7_type_139 v1 E182 fuel v3 (v6 + 1) (upd Mline (Mlength.toNatClampNeg) (((jlshr v1 (8 * v6)).toInt32) &&& 255)) Mthrown (Mlength + 1)))
def BX7_type_128 (v1 : Int64)  (v3 : Int32) (s1 : Int32) (Mline : Nat → Int32) (Mthrown : Int32) (Mlength : Int32) : Option (Int32 × (Nat → Int32) × Int32 × Int32) := bnd2 (fX7_holds s1 Mthrown) (fun r12 thrown_12 => (if r12 = 0 then some (0, Mline, thrown_12, Mlength) else LX7_type_139 v1 (fun (Mline : Nat → Int32) (Mthrown : Int32) (Mlength : Int32) => some (Mlength, Mline, Mthrown, Mlength)) 1000 v3 0 Mline thrown_12 Mlength))
def fX7_type (v1 : Int64) (Mline : Nat → Int32) (Mthrown : Int32) (Mlength : Int32) : Option (Int32 × (Nat → Int32) × Int32 × Int32) := LX7_type_11 v1 (fun (v3 : Int32) (v4 : Int32) (Mline : Nat → Int32) (Mthrown : Int32) (Mlength : Int32) => (if v4 = 0 then BX7_type_128 v1 v3 1 Mline Mthrown Mlength else (if (Mlength + v3) ≤ 60 then BX7_type_128 v1 v3 0 Mline Mthrown Mlength else BX7_type_128 v1 v3 2 Mline Mthrown Mlength))) 1000 0 1 0 0 Mline Mthrown Mlength
abbrev rmX7_type : Room := { frames := 1, cells := 0, slots := 0, locals := 22 }
set_option maxHeartbeats 4000000 in
set_option maxRecDepth 100000 in
theorem met_X7_type (l : Launch) (D : va_G) (k : Nat → ClassId)  (aM : Nat → Nat) (sz : Nat) (Mestimate : Nat → Int32) (Munit : Nat → Int32) (Msort : Nat → Int32) (Mwidth : Nat → Int32) (Mmany : Nat → Int32) (Mreading : Nat → Int32) (Mvariance : Nat → Int32) (Mcovariance : Nat → Int32) (Mline : Nat → Int32) (Mformulas : Nat → Int32) (Mroot : Nat → Int32) (Mkind : Nat → Int32) (Mone : Nat → Int32) (Mother : Nat → Int32) (Msigns : Nat → Int32) (Mplace : Nat → Int32) (MleftOf : Nat → Int32) (MrightOf : Nat → Int32) (Mtype : Nat → Int32) (Msum : Nat → Int32) (Msign : Nat → Int32) (MsignAt : Nat → Int32) (Mproduct : Nat → Int32) (Mvalue : Nat → Int64) (Mslope : Nat → Int64) (Mexponent : Nat → Int32) (Mdrawn : Nat → Int32) (Mslopes : Nat → Int64) (Mfrom : Nat → Int32) (Mfactor : Nat → Int32) (Mthrown : Int32) (Mlength : Int32) (Mmodels : Int32) (Mopen : Int32) (Mat : Int32) (Mrows : Int32) (Mx : Int32) (v1 : Int64) (r : Int32) (RMline : Nat → Int32) (RMthrown : Int32) (RMlength : Int32) (h : fX7_type v1 Mline Mthrown Mlength = some (r, RMline, RMthrown, RMlength)) : Met l yX7_type wsX7_type rmX7_type (va_Pc [.ref (aM 0), .long v1] (PreW D k (wM k aM Mestimate Munit Msort Mwidth Mmany Mreading Mvariance Mcovariance Mline Mformulas Mroot Mkind Mone Mother Msigns Mplace MleftOf MrightOf Mtype Msum Msign MsignAt Mproduct Mvalue Mslope Mexponent Mdrawn Mslopes Mfrom Mfactor Mthrown Mlength Mmodels Mopen Mat Mrows Mx) sz)) (va_Qi (fun r9 (_ : Unit) => r9 = r) (fun _ t => PostW D k (va_A (wM k aM Mestimate Munit Msort Mwidth Mmany Mreading Mvariance Mcovariance Mline Mformulas Mroot Mkind Mone Mother Msigns Mplace MleftOf MrightOf Mtype Msum Msign MsignAt Mproduct Mvalue Mslope Mexponent Mdrawn Mslopes Mfrom Mfactor Mthrown Mlength Mmodels Mopen Mat Mrows Mx) sz) (wM k aM Mestimate Munit Msort Mwidth Mmany Mreading Mvariance Mcovariance RMline Mformulas Mroot Mkind Mone Mother Msigns Mplace MleftOf MrightOf Mtype Msum Msign MsignAt Mproduct Mvalue Mslope Mexponent Mdrawn Mslopes Mfrom Mfactor RMthrown RMlength Mmodels Mopen Mat Mrows Mx) t) (va_A (wM k aM Mestimate Munit Msort Mwidth Mmany Mreading Mvariance Mcovariance Mline Mformulas Mroot Mkind Mone Mother Msigns Mplace MleftOf MrightOf Mtype Msum Msign MsignAt Mproduct Mvalue Mslope Mexponent Mdrawn Mslopes Mfrom Mfactor Mthrown Mlength Mmodels Mopen Mat Mrows Mx) sz)) 0 0 (va_A (wM k aM Mestimate Munit Msort Mwidth Mmany Mreading Mvariance Mcovariance Mline Mformulas Mroot Mkind Mone Mother Msigns Mplace MleftOf MrightOf Mtype Msum Msign MsignAt Mproduct Mvalue Mslope Mexponent Mdrawn Mslopes Mfrom Mfactor Mthrown Mlength Mmodels Mopen Mat Mrows Mx) sz) := by
  refine Met.ofW (cc := cX7_type) (maxL := 8) (ret := (some .int)) (by decide) rfl ?_
  intro p e s m args below meth c s₁ B hml hv
  obtain ⟨hav, hsz, hP, hK, hD0⟩ := hv
  have hx := B.exec
  have hb := B.bytes
  have hr := B.returns
  have hts := atoms_spec (ws := wsX7_type) B.pre
  have hown : s.vm.findClass RX7 = some m.cls := findClass_of_methodNamed B.named
  have hlocks := B.notSynchronized
  subst hsz
  have hD := hD0.self (sz := s.heap.size)
  clear hD0
  generalize hAe : va_A (wM k aM Mestimate Munit Msort Mwidth Mmany Mreading Mvariance Mcovariance Mline Mformulas Mroot Mkind Mone Mother Msigns Mplace MleftOf MrightOf Mtype Msum Msign MsignAt Mproduct Mvalue Mslope Mexponent Mdrawn Mslopes Mfrom Mfactor Mthrown Mlength Mmodels Mopen Mat Mrows Mx) s.heap.size = A at hD ⊢
  have hA : ∀ q : Nat, s.heap.size ≤ q → A q := fun q h => by rw [← hAe]; exact Or.inr h
  have hS : va_S A s.heap s.heap [] := va_S.rf
  have hl := lv_entry ([.ref (aM 0), .long v1]) (n := 8) (Nat.le_of_ble_eq_true rfl)
  rw [show entryFrame m args 8 = entryFrame m ([.ref (aM 0), .long v1] : List Value).toArray 8 from by rw [hav], lg_entry_eq]
  generalize (lg_sl ([.ref (aM 0), .long v1]) ++ List.replicate (8 - (lg_sl ([.ref (aM 0), .long v1])).length) Slot.unset).toArray = ls at hl ⊢
  replace hl : lv_has ls 8 [(0, .ref (aM 0)), (1, .long v1)] := hl
  have f34 := hts (.fieldLink RX7 34 "UncertainBookModel" "line" "[I") (by decide +kernel)
  have f136 := hts (.fieldLink RX7 136 "UncertainBookModel" "length" "I") (by decide +kernel)
  have iX7 : ∀ w ∈ u_ws RX7 TX7 37, w ∈ wsX7_type := by decide +kernel
  refine w_q (fun Q hQ => ?_)
  unfold fX7_type at h
  show W p l e rmX7_type s m args below meth c s.heap [] 0 0 Q (F0 m 0 ls [])
  have BH_94 : ∀ (K : Int32 → Int32 → Int32 → Int32 → (Nat → Int32) → Int32 → Int32 → Option (Int32 × (Nat → Int32) × Int32 × Int32)) (hKK : ∀ (v3 : Int32) (v4 : Int32) (v5 : Int32) (v6 : Int32) (Mline : Nat → Int32) (Mthrown : Int32) (Mlength : Int32), K v3 v4 v5 v6 Mline Mthrown Mlength = some (r, RMline, RMthrown, RMlength) → ∀ (H : Heap) (locs : List Loc) (ls : Array Slot), va_P D vwCl (wM k aM Mestimate Munit Msort Mwidth Mmany Mreading Mvariance Mcovariance Mline Mformulas Mroot Mkind Mone Mother Msigns Mplace MleftOf MrightOf Mtype Msum Msign MsignAt Mproduct Mvalue Mslope Mexponent Mdrawn Mslopes Mfrom Mfactor Mthrown Mlength Mmodels Mopen Mat Mrows Mx) H → va_D A (wM k aM Mestimate Munit Msort Mwidth Mmany Mreading Mvariance Mcovariance Mline Mformulas Mroot Mkind Mone Mother Msigns Mplace MleftOf MrightOf Mtype Msum Msign MsignAt Mproduct Mvalue Mslope Mexponent Mdrawn Mslopes Mfrom Mfactor Mthrown Mlength Mmodels Mopen Mat Mrows Mx) → va_S A s.heap H locs → lv_has ls 8 [(0, .ref (aM 0)), (1, .long v1), (3, .int v3), (4, .int v4), (5, .int v5), (6, .int v6)] → W p l e rmX7_type s m args below meth c H locs 0 0 Q (F0 m 11 ls [])) (E102 : Int32 → Int32 → (Nat → Int32) → Int32 → Int32 → Option (Int32 × (Nat → Int32) × Int32 × Int32)) (hE102 : ∀ (v3 : Int32) (v4 : Int32) (Mline : Nat → Int32) (Mthrown : Int32) (Mlength : Int32), E102 v3 v4 Mline Mthrown Mlength = some (r, RMline, RMthrown, RMlength) → ∀ (H : Heap) (locs : List Loc) (ls : Array Slot), va_P D vwCl (wM k aM Mestimate Munit Msort Mwidth Mmany Mreading Mvariance Mcovariance Mline Mformulas Mroot Mkind Mone Mother Msigns Mplace MleftOf MrightOf Mtype Msum Msign MsignAt Mproduct Mvalue Mslope Mexponent Mdrawn Mslopes Mfrom Mfactor Mthrown Mlength Mmodels Mopen Mat Mrows Mx) H → va_D A (wM k aM Mestimate Munit Msort Mwidth Mmany Mreading Mvariance Mcovariance Mline Mformulas Mroot Mkind Mone Mother Msigns Mplace MleftOf MrightOf Mtype Msum Msign MsignAt Mproduct Mvalue Mslope Mexponent Mdrawn Mslopes Mfrom Mfactor Mthrown Mlength Mmodels Mopen Mat Mrows Mx) → va_S A s.heap H locs → lv_has ls 8 [(0, .ref (aM 0)), (1, .long v1), (3, .int v3), (4, .int v4)] → W p l e rmX7_type s m args below meth c H locs 0 0 Q (F0 m 102 ls [])) (v4 : Int32) (v5 : Int32) (v6 : Int32) (s0 : Int32) (s1 : Int32) (Mline : Nat → Int32) (Mthrown : Int32) (Mlength : Int32), BX7_type_94 v1 K E102 v4 v5 v6 s0 s1 Mline Mthrown Mlength = some (r, RMline, RMthrown, RMlength) → ∀ (H : Heap) (locs : List Loc) (ls : Array Slot), va_P D vwCl (wM k aM Mestimate Munit Msort Mwidth Mmany Mreading Mvariance Mcovariance Mline Mformulas Mroot Mkind Mone Mother Msigns Mplace MleftOf MrightOf Mtype Msum Msign MsignAt Mproduct Mvalue Mslope Mexponent Mdrawn Mslopes Mfrom Mfactor Mthrown Mlength Mmodels Mopen Mat Mrows Mx) H → va_D A (wM k aM Mestimate Munit Msort Mwidth Mmany Mreading Mvariance Mcovariance Mline Mformulas Mroot Mkind Mone Mother Msigns Mplace MleftOf MrightOf Mtype Msum Msign MsignAt Mproduct Mvalue Mslope Mexponent Mdrawn Mslopes Mfrom Mfactor Mthrown Mlength Mmodels Mopen Mat Mrows Mx) → va_S A s.heap H locs → lv_has ls 8 [(0, .ref (aM 0)), (1, .long v1), (4, .int v4), (5, .int v5), (6, .int v6)] → W p l e rmX7_type s m args below meth c H locs 0 0 Q (F0 m 94 ls [.int s1, .int s0]) := by
    intro K hKK E102 hE102 v4 v5 v6 s0 s1 Mline Mthrown Mlength h H locs ls hP hD hS hl
    unfold BX7_type_94 at h
    refine lv_iadd hx hb dX7_type_94 ?_
    refine lv_istore_n (lv' := [(3, .int (s0 + s1)), (0, .ref (aM 0)), (1, .long v1), (4, .int v4), (5, .int v5), (6, .int v6)]) hx hb dX7_type_95 rfl hl (by decide) rfl (fun ls hl => ?_)
    refine lv_iinc (v := v6 + 1) (lv' := [(6, .int (v6 + 1)), (3, .int (s0 + s1)), (0, .ref (aM 0)), (1, .long v1), (4, .int v4), (5, .int v5)]) hx hb dX7_type_96 hl (k := 5) rfl rfl (by decide) rfl (fun ls hl => ?_)
    refine lv_goto (tgt := 11) hx hb dX7_type_99 (by decide) ?_
    exact hKK _ _ _ _ _ _ _ h _ _ _ hP hD hS (lv_sub hl [2, 3, 1, 4, 5, 0] rfl)
  have BH_81 : ∀ (K : Int32 → Int32 → Int32 → Int32 → (Nat → Int32) → Int32 → Int32 → Option (Int32 × (Nat → Int32) × Int32 × Int32)) (hKK : ∀ (v3 : Int32) (v4 : Int32) (v5 : Int32) (v6 : Int32) (Mline : Nat → Int32) (Mthrown : Int32) (Mlength : Int32), K v3 v4 v5 v6 Mline Mthrown Mlength = some (r, RMline, RMthrown, RMlength) → ∀ (H : Heap) (locs : List Loc) (ls : Array Slot), va_P D vwCl (wM k aM Mestimate Munit Msort Mwidth Mmany Mreading Mvariance Mcovariance Mline Mformulas Mroot Mkind Mone Mother Msigns Mplace MleftOf MrightOf Mtype Msum Msign MsignAt Mproduct Mvalue Mslope Mexponent Mdrawn Mslopes Mfrom Mfactor Mthrown Mlength Mmodels Mopen Mat Mrows Mx) H → va_D A (wM k aM Mestimate Munit Msort Mwidth Mmany Mreading Mvariance Mcovariance Mline Mformulas Mroot Mkind Mone Mother Msigns Mplace MleftOf MrightOf Mtype Msum Msign MsignAt Mproduct Mvalue Mslope Mexponent Mdrawn Mslopes Mfrom Mfactor Mthrown Mlength Mmodels Mopen Mat Mrows Mx) → va_S A s.heap H locs → lv_has ls 8 [(0, .ref (aM 0)), (1, .long v1), (3, .int v3), (4, .int v4), (5, .int v5), (6, .int v6)] → W p l e rmX7_type s m args below meth c H locs 0 0 Q (F0 m 11 ls [])) (E102 : Int32 → Int32 → (Nat → Int32) → Int32 → Int32 → Option (Int32 × (Nat → Int32) × Int32 × Int32)) (hE102 : ∀ (v3 : Int32) (v4 : Int32) (Mline : Nat → Int32) (Mthrown : Int32) (Mlength : Int32), E102 v3 v4 Mline Mthrown Mlength = some (r, RMline, RMthrown, RMlength) → ∀ (H : Heap) (locs : List Loc) (ls : Array Slot), va_P D vwCl (wM k aM Mestimate Munit Msort Mwidth Mmany Mreading Mvariance Mcovariance Mline Mformulas Mroot Mkind Mone Mother Msigns Mplace MleftOf MrightOf Mtype Msum Msign MsignAt Mproduct Mvalue Mslope Mexponent Mdrawn Mslopes Mfrom Mfactor Mthrown Mlength Mmodels Mopen Mat Mrows Mx) H → va_D A (wM k aM Mestimate Munit Msort Mwidth Mmany Mreading Mvariance Mcovariance Mline Mformulas Mroot Mkind Mone Mother Msigns Mplace MleftOf MrightOf Mtype Msum Msign MsignAt Mproduct Mvalue Mslope Mexponent Mdrawn Mslopes Mfrom Mfactor Mthrown Mlength Mmodels Mopen Mat Mrows Mx) → va_S A s.heap H locs → lv_has ls 8 [(0, .ref (aM 0)), (1, .long v1), (3, .int v3), (4, .int v4)] → W p l e rmX7_type s m args below meth c H locs 0 0 Q (F0 m 102 ls [])) (v3 : Int32) (v4 : Int32) (v6 : Int32) (s0 : Int32) (Mline : Nat → Int32) (Mthrown : Int32) (Mlength : Int32), BX7_type_81 v1 K E102 v3 v4 v6 s0 Mline Mthrown Mlength = some (r, RMline, RMthrown, RMlength) → ∀ (H : Heap) (locs : List Loc) (ls : Array Slot), va_P D vwCl (wM k aM Mestimate Munit Msort Mwidth Mmany Mreading Mvariance Mcovariance Mline Mformulas Mroot Mkind Mone Mother Msigns Mplace MleftOf MrightOf Mtype Msum Msign MsignAt Mproduct Mvalue Mslope Mexponent Mdrawn Mslopes Mfrom Mfactor Mthrown Mlength Mmodels Mopen Mat Mrows Mx) H → va_D A (wM k aM Mestimate Munit Msort Mwidth Mmany Mreading Mvariance Mcovariance Mline Mformulas Mroot Mkind Mone Mother Msigns Mplace MleftOf MrightOf Mtype Msum Msign MsignAt Mproduct Mvalue Mslope Mexponent Mdrawn Mslopes Mfrom Mfactor Mthrown Mlength Mmodels Mopen Mat Mrows Mx) → va_S A s.heap H locs → lv_has ls 8 [(0, .ref (aM 0)), (1, .long v1), (3, .int v3), (4, .int v4), (6, .int v6)] → W p l e rmX7_type s m args below meth c H locs 0 0 Q (F0 m 81 ls [.int s0]) := by
    intro K hKK E102 hE102 v3 v4 v6 s0 Mline Mthrown Mlength h H locs ls hP hD hS hl
    unfold BX7_type_81 at h
    refine lv_istore (lv' := [(5, .int s0), (0, .ref (aM 0)), (1, .long v1), (3, .int v3), (4, .int v4), (6, .int v6)]) hx hb dX7_type_81 hl (by decide) rfl (fun ls hl => ?_)
    refine lv_iload_n hx hb dX7_type_83 rfl (lv_at hl 3 rfl) ?_
    refine lv_iload hx hb dX7_type_84 (lv_at hl 0 rfl) ?_
    refine lv_if_eq (tgt := 93) hx hb dX7_type_86 (by decide) (fun c4 => ?_) (fun c4 => ?_)
    · replace h := sf_t c4 h
      refine lv_iconst (v := 1) hx hb dX7_type_93 (by decide) ?_
      exact BH_94 _ hKK _ hE102 _ _ _ _ _ _ _ _ h _ _ _ hP hD hS (lv_sub hl [1, 2, 4, 0, 5] rfl)
    · replace h := sf_f c4 h
      refine lv_iconst (v := 0) hx hb dX7_type_89 (by decide) ?_
      refine lv_goto (tgt := 94) hx hb dX7_type_90 (by decide) ?_
      exact BH_94 _ hKK _ hE102 _ _ _ _ _ _ _ _ h _ _ _ hP hD hS (lv_sub hl [1, 2, 4, 0, 5] rfl)
  have BH_76 : ∀ (K : Int32 → Int32 → Int32 → Int32 → (Nat → Int32) → Int32 → Int32 → Option (Int32 × (Nat → Int32) × Int32 × Int32)) (hKK : ∀ (v3 : Int32) (v4 : Int32) (v5 : Int32) (v6 : Int32) (Mline : Nat → Int32) (Mthrown : Int32) (Mlength : Int32), K v3 v4 v5 v6 Mline Mthrown Mlength = some (r, RMline, RMthrown, RMlength) → ∀ (H : Heap) (locs : List Loc) (ls : Array Slot), va_P D vwCl (wM k aM Mestimate Munit Msort Mwidth Mmany Mreading Mvariance Mcovariance Mline Mformulas Mroot Mkind Mone Mother Msigns Mplace MleftOf MrightOf Mtype Msum Msign MsignAt Mproduct Mvalue Mslope Mexponent Mdrawn Mslopes Mfrom Mfactor Mthrown Mlength Mmodels Mopen Mat Mrows Mx) H → va_D A (wM k aM Mestimate Munit Msort Mwidth Mmany Mreading Mvariance Mcovariance Mline Mformulas Mroot Mkind Mone Mother Msigns Mplace MleftOf MrightOf Mtype Msum Msign MsignAt Mproduct Mvalue Mslope Mexponent Mdrawn Mslopes Mfrom Mfactor Mthrown Mlength Mmodels Mopen Mat Mrows Mx) → va_S A s.heap H locs → lv_has ls 8 [(0, .ref (aM 0)), (1, .long v1), (3, .int v3), (4, .int v4), (5, .int v5), (6, .int v6)] → W p l e rmX7_type s m args below meth c H locs 0 0 Q (F0 m 11 ls [])) (E102 : Int32 → Int32 → (Nat → Int32) → Int32 → Int32 → Option (Int32 × (Nat → Int32) × Int32 × Int32)) (hE102 : ∀ (v3 : Int32) (v4 : Int32) (Mline : Nat → Int32) (Mthrown : Int32) (Mlength : Int32), E102 v3 v4 Mline Mthrown Mlength = some (r, RMline, RMthrown, RMlength) → ∀ (H : Heap) (locs : List Loc) (ls : Array Slot), va_P D vwCl (wM k aM Mestimate Munit Msort Mwidth Mmany Mreading Mvariance Mcovariance Mline Mformulas Mroot Mkind Mone Mother Msigns Mplace MleftOf MrightOf Mtype Msum Msign MsignAt Mproduct Mvalue Mslope Mexponent Mdrawn Mslopes Mfrom Mfactor Mthrown Mlength Mmodels Mopen Mat Mrows Mx) H → va_D A (wM k aM Mestimate Munit Msort Mwidth Mmany Mreading Mvariance Mcovariance Mline Mformulas Mroot Mkind Mone Mother Msigns Mplace MleftOf MrightOf Mtype Msum Msign MsignAt Mproduct Mvalue Mslope Mexponent Mdrawn Mslopes Mfrom Mfactor Mthrown Mlength Mmodels Mopen Mat Mrows Mx) → va_S A s.heap H locs → lv_has ls 8 [(0, .ref (aM 0)), (1, .long v1), (3, .int v3), (4, .int v4)] → W p l e rmX7_type s m args below meth c H locs 0 0 Q (F0 m 102 ls [])) (v3 : Int32) (v4 : Int32) (v6 : Int32) (Mline : Nat → Int32) (Mthrown : Int32) (Mlength : Int32), BX7_type_76 v1 K E102 v3 v4 v6 Mline Mthrown Mlength = some (r, RMline, RMthrown, RMlength) → ∀ (H : Heap) (locs : List Loc) (ls : Array Slot), va_P D vwCl (wM k aM Mestimate Munit Msort Mwidth Mmany Mreading Mvariance Mcovariance Mline Mformulas Mroot Mkind Mone Mother Msigns Mplace MleftOf MrightOf Mtype Msum Msign MsignAt Mproduct Mvalue Mslope Mexponent Mdrawn Mslopes Mfrom Mfactor Mthrown Mlength Mmodels Mopen Mat Mrows Mx) H → va_D A (wM k aM Mestimate Munit Msort Mwidth Mmany Mreading Mvariance Mcovariance Mline Mformulas Mroot Mkind Mone Mother Msigns Mplace MleftOf MrightOf Mtype Msum Msign MsignAt Mproduct Mvalue Mslope Mexponent Mdrawn Mslopes Mfrom Mfactor Mthrown Mlength Mmodels Mopen Mat Mrows Mx) → va_S A s.heap H locs → lv_has ls 8 [(0, .ref (aM 0)), (1, .long v1), (3, .int v3), (4, .int v4), (6, .int v6)] → W p l e rmX7_type s m args below meth c H locs 0 0 Q (F0 m 76 ls []) := by
    intro K hKK E102 hE102 v3 v4 v6 Mline Mthrown Mlength h H locs ls hP hD hS hl
    unfold BX7_type_76 at h
    refine lv_iconst (v := 1) hx hb dX7_type_76 (by decide) ?_
    refine lv_goto (tgt := 81) hx hb dX7_type_77 (by decide) ?_
    exact BH_81 _ hKK _ hE102 _ _ _ _ _ _ _ h _ _ _ hP hD hS (lv_sub hl [0, 1, 2, 3, 4] rfl)
  have BH_64 : ∀ (K : Int32 → Int32 → Int32 → Int32 → (Nat → Int32) → Int32 → Int32 → Option (Int32 × (Nat → Int32) × Int32 × Int32)) (hKK : ∀ (v3 : Int32) (v4 : Int32) (v5 : Int32) (v6 : Int32) (Mline : Nat → Int32) (Mthrown : Int32) (Mlength : Int32), K v3 v4 v5 v6 Mline Mthrown Mlength = some (r, RMline, RMthrown, RMlength) → ∀ (H : Heap) (locs : List Loc) (ls : Array Slot), va_P D vwCl (wM k aM Mestimate Munit Msort Mwidth Mmany Mreading Mvariance Mcovariance Mline Mformulas Mroot Mkind Mone Mother Msigns Mplace MleftOf MrightOf Mtype Msum Msign MsignAt Mproduct Mvalue Mslope Mexponent Mdrawn Mslopes Mfrom Mfactor Mthrown Mlength Mmodels Mopen Mat Mrows Mx) H → va_D A (wM k aM Mestimate Munit Msort Mwidth Mmany Mreading Mvariance Mcovariance Mline Mformulas Mroot Mkind Mone Mother Msigns Mplace MleftOf MrightOf Mtype Msum Msign MsignAt Mproduct Mvalue Mslope Mexponent Mdrawn Mslopes Mfrom Mfactor Mthrown Mlength Mmodels Mopen Mat Mrows Mx) → va_S A s.heap H locs → lv_has ls 8 [(0, .ref (aM 0)), (1, .long v1), (3, .int v3), (4, .int v4), (5, .int v5), (6, .int v6)] → W p l e rmX7_type s m args below meth c H locs 0 0 Q (F0 m 11 ls [])) (E102 : Int32 → Int32 → (Nat → Int32) → Int32 → Int32 → Option (Int32 × (Nat → Int32) × Int32 × Int32)) (hE102 : ∀ (v3 : Int32) (v4 : Int32) (Mline : Nat → Int32) (Mthrown : Int32) (Mlength : Int32), E102 v3 v4 Mline Mthrown Mlength = some (r, RMline, RMthrown, RMlength) → ∀ (H : Heap) (locs : List Loc) (ls : Array Slot), va_P D vwCl (wM k aM Mestimate Munit Msort Mwidth Mmany Mreading Mvariance Mcovariance Mline Mformulas Mroot Mkind Mone Mother Msigns Mplace MleftOf MrightOf Mtype Msum Msign MsignAt Mproduct Mvalue Mslope Mexponent Mdrawn Mslopes Mfrom Mfactor Mthrown Mlength Mmodels Mopen Mat Mrows Mx) H → va_D A (wM k aM Mestimate Munit Msort Mwidth Mmany Mreading Mvariance Mcovariance Mline Mformulas Mroot Mkind Mone Mother Msigns Mplace MleftOf MrightOf Mtype Msum Msign MsignAt Mproduct Mvalue Mslope Mexponent Mdrawn Mslopes Mfrom Mfactor Mthrown Mlength Mmodels Mopen Mat Mrows Mx) → va_S A s.heap H locs → lv_has ls 8 [(0, .ref (aM 0)), (1, .long v1), (3, .int v3), (4, .int v4)] → W p l e rmX7_type s m args below meth c H locs 0 0 Q (F0 m 102 ls [])) (v3 : Int32) (v5 : Int32) (v6 : Int32) (v7 : Int32) (s0 : Int32) (Mline : Nat → Int32) (Mthrown : Int32) (Mlength : Int32), BX7_type_64 v1 K E102 v3 v5 v6 v7 s0 Mline Mthrown Mlength = some (r, RMline, RMthrown, RMlength) → ∀ (H : Heap) (locs : List Loc) (ls : Array Slot), va_P D vwCl (wM k aM Mestimate Munit Msort Mwidth Mmany Mreading Mvariance Mcovariance Mline Mformulas Mroot Mkind Mone Mother Msigns Mplace MleftOf MrightOf Mtype Msum Msign MsignAt Mproduct Mvalue Mslope Mexponent Mdrawn Mslopes Mfrom Mfactor Mthrown Mlength Mmodels Mopen Mat Mrows Mx) H → va_D A (wM k aM Mestimate Munit Msort Mwidth Mmany Mreading Mvariance Mcovariance Mline Mformulas Mroot Mkind Mone Mother Msigns Mplace MleftOf MrightOf Mtype Msum Msign MsignAt Mproduct Mvalue Mslope Mexponent Mdrawn Mslopes Mfrom Mfactor Mthrown Mlength Mmodels Mopen Mat Mrows Mx) → va_S A s.heap H locs → lv_has ls 8 [(0, .ref (aM 0)), (1, .long v1), (3, .int v3), (5, .int v5), (6, .int v6), (7, .int v7)] → W p l e rmX7_type s m args below meth c H locs 0 0 Q (F0 m 64 ls [.int s0]) := by
    intro K hKK E102 hE102 v3 v5 v6 v7 s0 Mline Mthrown Mlength h H locs ls hP hD hS hl
    unfold BX7_type_64 at h
    refine lv_istore (lv' := [(4, .int s0), (0, .ref (aM 0)), (1, .long v1), (3, .int v3), (5, .int v5), (6, .int v6), (7, .int v7)]) hx hb dX7_type_64 hl (by decide) rfl (fun ls hl => ?_)
    refine lv_iload hx hb dX7_type_66 (lv_at hl 4 rfl) ?_
    refine lv_if_ne (tgt := 76) hx hb dX7_type_68 (by decide) (fun c3 => ?_) (fun c3 => ?_)
    · replace h := sf_f c3 h
      exact BH_76 _ hKK _ hE102 _ _ _ _ _ _ h _ _ _ hP hD hS (lv_sub hl [1, 2, 3, 0, 5] rfl)
    · replace h := sf_t c3 h
      refine lv_iload hx hb dX7_type_71 (lv_at hl 6 rfl) ?_
      refine lv_if_ne (tgt := 80) hx hb dX7_type_73 (by decide) (fun c5 => ?_) (fun c5 => ?_)
      · replace h := sf_f c5 h
        refine lv_iconst (v := 0) hx hb dX7_type_80 (by decide) ?_
        exact BH_81 _ hKK _ hE102 _ _ _ _ _ _ _ h _ _ _ hP hD hS (lv_sub hl [1, 2, 3, 0, 5] rfl)
      · replace h := sf_t c5 h
        exact BH_76 _ hKK _ hE102 _ _ _ _ _ _ h _ _ _ hP hD hS (lv_sub hl [1, 2, 3, 0, 5] rfl)
  have BH_63 : ∀ (K : Int32 → Int32 → Int32 → Int32 → (Nat → Int32) → Int32 → Int32 → Option (Int32 × (Nat → Int32) × Int32 × Int32)) (hKK : ∀ (v3 : Int32) (v4 : Int32) (v5 : Int32) (v6 : Int32) (Mline : Nat → Int32) (Mthrown : Int32) (Mlength : Int32), K v3 v4 v5 v6 Mline Mthrown Mlength = some (r, RMline, RMthrown, RMlength) → ∀ (H : Heap) (locs : List Loc) (ls : Array Slot), va_P D vwCl (wM k aM Mestimate Munit Msort Mwidth Mmany Mreading Mvariance Mcovariance Mline Mformulas Mroot Mkind Mone Mother Msigns Mplace MleftOf MrightOf Mtype Msum Msign MsignAt Mproduct Mvalue Mslope Mexponent Mdrawn Mslopes Mfrom Mfactor Mthrown Mlength Mmodels Mopen Mat Mrows Mx) H → va_D A (wM k aM Mestimate Munit Msort Mwidth Mmany Mreading Mvariance Mcovariance Mline Mformulas Mroot Mkind Mone Mother Msigns Mplace MleftOf MrightOf Mtype Msum Msign MsignAt Mproduct Mvalue Mslope Mexponent Mdrawn Mslopes Mfrom Mfactor Mthrown Mlength Mmodels Mopen Mat Mrows Mx) → va_S A s.heap H locs → lv_has ls 8 [(0, .ref (aM 0)), (1, .long v1), (3, .int v3), (4, .int v4), (5, .int v5), (6, .int v6)] → W p l e rmX7_type s m args below meth c H locs 0 0 Q (F0 m 11 ls [])) (E102 : Int32 → Int32 → (Nat → Int32) → Int32 → Int32 → Option (Int32 × (Nat → Int32) × Int32 × Int32)) (hE102 : ∀ (v3 : Int32) (v4 : Int32) (Mline : Nat → Int32) (Mthrown : Int32) (Mlength : Int32), E102 v3 v4 Mline Mthrown Mlength = some (r, RMline, RMthrown, RMlength) → ∀ (H : Heap) (locs : List Loc) (ls : Array Slot), va_P D vwCl (wM k aM Mestimate Munit Msort Mwidth Mmany Mreading Mvariance Mcovariance Mline Mformulas Mroot Mkind Mone Mother Msigns Mplace MleftOf MrightOf Mtype Msum Msign MsignAt Mproduct Mvalue Mslope Mexponent Mdrawn Mslopes Mfrom Mfactor Mthrown Mlength Mmodels Mopen Mat Mrows Mx) H → va_D A (wM k aM Mestimate Munit Msort Mwidth Mmany Mreading Mvariance Mcovariance Mline Mformulas Mroot Mkind Mone Mother Msigns Mplace MleftOf MrightOf Mtype Msum Msign MsignAt Mproduct Mvalue Mslope Mexponent Mdrawn Mslopes Mfrom Mfactor Mthrown Mlength Mmodels Mopen Mat Mrows Mx) → va_S A s.heap H locs → lv_has ls 8 [(0, .ref (aM 0)), (1, .long v1), (3, .int v3), (4, .int v4)] → W p l e rmX7_type s m args below meth c H locs 0 0 Q (F0 m 102 ls [])) (v3 : Int32) (v5 : Int32) (v6 : Int32) (v7 : Int32) (Mline : Nat → Int32) (Mthrown : Int32) (Mlength : Int32), BX7_type_63 v1 K E102 v3 v5 v6 v7 Mline Mthrown Mlength = some (r, RMline, RMthrown, RMlength) → ∀ (H : Heap) (locs : List Loc) (ls : Array Slot), va_P D vwCl (wM k aM Mestimate Munit Msort Mwidth Mmany Mreading Mvariance Mcovariance Mline Mformulas Mroot Mkind Mone Mother Msigns Mplace MleftOf MrightOf Mtype Msum Msign MsignAt Mproduct Mvalue Mslope Mexponent Mdrawn Mslopes Mfrom Mfactor Mthrown Mlength Mmodels Mopen Mat Mrows Mx) H → va_D A (wM k aM Mestimate Munit Msort Mwidth Mmany Mreading Mvariance Mcovariance Mline Mformulas Mroot Mkind Mone Mother Msigns Mplace MleftOf MrightOf Mtype Msum Msign MsignAt Mproduct Mvalue Mslope Mexponent Mdrawn Mslopes Mfrom Mfactor Mthrown Mlength Mmodels Mopen Mat Mrows Mx) → va_S A s.heap H locs → lv_has ls 8 [(0, .ref (aM 0)), (1, .long v1), (3, .int v3), (5, .int v5), (6, .int v6), (7, .int v7)] → W p l e rmX7_type s m args below meth c H locs 0 0 Q (F0 m 63 ls []) := by
    intro K hKK E102 hE102 v3 v5 v6 v7 Mline Mthrown Mlength h H locs ls hP hD hS hl
    unfold BX7_type_63 at h
    refine lv_iconst (v := 0) hx hb dX7_type_63 (by decide) ?_
    exact BH_64 _ hKK _ hE102 _ _ _ _ _ _ _ _ h _ _ _ hP hD hS (lv_sub hl [0, 1, 2, 3, 4, 5] rfl)
  have BH_59 : ∀ (K : Int32 → Int32 → Int32 → Int32 → (Nat → Int32) → Int32 → Int32 → Option (Int32 × (Nat → Int32) × Int32 × Int32)) (hKK : ∀ (v3 : Int32) (v4 : Int32) (v5 : Int32) (v6 : Int32) (Mline : Nat → Int32) (Mthrown : Int32) (Mlength : Int32), K v3 v4 v5 v6 Mline Mthrown Mlength = some (r, RMline, RMthrown, RMlength) → ∀ (H : Heap) (locs : List Loc) (ls : Array Slot), va_P D vwCl (wM k aM Mestimate Munit Msort Mwidth Mmany Mreading Mvariance Mcovariance Mline Mformulas Mroot Mkind Mone Mother Msigns Mplace MleftOf MrightOf Mtype Msum Msign MsignAt Mproduct Mvalue Mslope Mexponent Mdrawn Mslopes Mfrom Mfactor Mthrown Mlength Mmodels Mopen Mat Mrows Mx) H → va_D A (wM k aM Mestimate Munit Msort Mwidth Mmany Mreading Mvariance Mcovariance Mline Mformulas Mroot Mkind Mone Mother Msigns Mplace MleftOf MrightOf Mtype Msum Msign MsignAt Mproduct Mvalue Mslope Mexponent Mdrawn Mslopes Mfrom Mfactor Mthrown Mlength Mmodels Mopen Mat Mrows Mx) → va_S A s.heap H locs → lv_has ls 8 [(0, .ref (aM 0)), (1, .long v1), (3, .int v3), (4, .int v4), (5, .int v5), (6, .int v6)] → W p l e rmX7_type s m args below meth c H locs 0 0 Q (F0 m 11 ls [])) (E102 : Int32 → Int32 → (Nat → Int32) → Int32 → Int32 → Option (Int32 × (Nat → Int32) × Int32 × Int32)) (hE102 : ∀ (v3 : Int32) (v4 : Int32) (Mline : Nat → Int32) (Mthrown : Int32) (Mlength : Int32), E102 v3 v4 Mline Mthrown Mlength = some (r, RMline, RMthrown, RMlength) → ∀ (H : Heap) (locs : List Loc) (ls : Array Slot), va_P D vwCl (wM k aM Mestimate Munit Msort Mwidth Mmany Mreading Mvariance Mcovariance Mline Mformulas Mroot Mkind Mone Mother Msigns Mplace MleftOf MrightOf Mtype Msum Msign MsignAt Mproduct Mvalue Mslope Mexponent Mdrawn Mslopes Mfrom Mfactor Mthrown Mlength Mmodels Mopen Mat Mrows Mx) H → va_D A (wM k aM Mestimate Munit Msort Mwidth Mmany Mreading Mvariance Mcovariance Mline Mformulas Mroot Mkind Mone Mother Msigns Mplace MleftOf MrightOf Mtype Msum Msign MsignAt Mproduct Mvalue Mslope Mexponent Mdrawn Mslopes Mfrom Mfactor Mthrown Mlength Mmodels Mopen Mat Mrows Mx) → va_S A s.heap H locs → lv_has ls 8 [(0, .ref (aM 0)), (1, .long v1), (3, .int v3), (4, .int v4)] → W p l e rmX7_type s m args below meth c H locs 0 0 Q (F0 m 102 ls [])) (v3 : Int32) (v5 : Int32) (v6 : Int32) (v7 : Int32) (Mline : Nat → Int32) (Mthrown : Int32) (Mlength : Int32), BX7_type_59 v1 K E102 v3 v5 v6 v7 Mline Mthrown Mlength = some (r, RMline, RMthrown, RMlength) → ∀ (H : Heap) (locs : List Loc) (ls : Array Slot), va_P D vwCl (wM k aM Mestimate Munit Msort Mwidth Mmany Mreading Mvariance Mcovariance Mline Mformulas Mroot Mkind Mone Mother Msigns Mplace MleftOf MrightOf Mtype Msum Msign MsignAt Mproduct Mvalue Mslope Mexponent Mdrawn Mslopes Mfrom Mfactor Mthrown Mlength Mmodels Mopen Mat Mrows Mx) H → va_D A (wM k aM Mestimate Munit Msort Mwidth Mmany Mreading Mvariance Mcovariance Mline Mformulas Mroot Mkind Mone Mother Msigns Mplace MleftOf MrightOf Mtype Msum Msign MsignAt Mproduct Mvalue Mslope Mexponent Mdrawn Mslopes Mfrom Mfactor Mthrown Mlength Mmodels Mopen Mat Mrows Mx) → va_S A s.heap H locs → lv_has ls 8 [(0, .ref (aM 0)), (1, .long v1), (3, .int v3), (5, .int v5), (6, .int v6), (7, .int v7)] → W p l e rmX7_type s m args below meth c H locs 0 0 Q (F0 m 59 ls []) := by
    intro K hKK E102 hE102 v3 v5 v6 v7 Mline Mthrown Mlength h H locs ls hP hD hS hl
    unfold BX7_type_59 at h
    refine lv_iconst (v := 1) hx hb dX7_type_59 (by decide) ?_
    refine lv_goto (tgt := 64) hx hb dX7_type_60 (by decide) ?_
    exact BH_64 _ hKK _ hE102 _ _ _ _ _ _ _ _ h _ _ _ hP hD hS (lv_sub hl [0, 1, 2, 3, 4, 5] rfl)
  have LH_11 : ∀ (E102 : Int32 → Int32 → (Nat → Int32) → Int32 → Int32 → Option (Int32 × (Nat → Int32) × Int32 × Int32)) (hE102 : ∀ (v3 : Int32) (v4 : Int32) (Mline : Nat → Int32) (Mthrown : Int32) (Mlength : Int32), E102 v3 v4 Mline Mthrown Mlength = some (r, RMline, RMthrown, RMlength) → ∀ (H : Heap) (locs : List Loc) (ls : Array Slot), va_P D vwCl (wM k aM Mestimate Munit Msort Mwidth Mmany Mreading Mvariance Mcovariance Mline Mformulas Mroot Mkind Mone Mother Msigns Mplace MleftOf MrightOf Mtype Msum Msign MsignAt Mproduct Mvalue Mslope Mexponent Mdrawn Mslopes Mfrom Mfactor Mthrown Mlength Mmodels Mopen Mat Mrows Mx) H → va_D A (wM k aM Mestimate Munit Msort Mwidth Mmany Mreading Mvariance Mcovariance Mline Mformulas Mroot Mkind Mone Mother Msigns Mplace MleftOf MrightOf Mtype Msum Msign MsignAt Mproduct Mvalue Mslope Mexponent Mdrawn Mslopes Mfrom Mfactor Mthrown Mlength Mmodels Mopen Mat Mrows Mx) → va_S A s.heap H locs → lv_has ls 8 [(0, .ref (aM 0)), (1, .long v1), (3, .int v3), (4, .int v4)] → W p l e rmX7_type s m args below meth c H locs 0 0 Q (F0 m 102 ls [])) (n : Nat) (v3 : Int32) (v4 : Int32) (v5 : Int32) (v6 : Int32) (Mline : Nat → Int32) (Mthrown : Int32) (Mlength : Int32), LX7_type_11 v1 E102 n v3 v4 v5 v6 Mline Mthrown Mlength = some (r, RMline, RMthrown, RMlength) → ∀ (H : Heap) (locs : List Loc) (ls : Array Slot), va_P D vwCl (wM k aM Mestimate Munit Msort Mwidth Mmany Mreading Mvariance Mcovariance Mline Mformulas Mroot Mkind Mone Mother Msigns Mplace MleftOf MrightOf Mtype Msum Msign MsignAt Mproduct Mvalue Mslope Mexponent Mdrawn Mslopes Mfrom Mfactor Mthrown Mlength Mmodels Mopen Mat Mrows Mx) H → va_D A (wM k aM Mestimate Munit Msort Mwidth Mmany Mreading Mvariance Mcovariance Mline Mformulas Mroot Mkind Mone Mother Msigns Mplace MleftOf MrightOf Mtype Msum Msign MsignAt Mproduct Mvalue Mslope Mexponent Mdrawn Mslopes Mfrom Mfactor Mthrown Mlength Mmodels Mopen Mat Mrows Mx) → va_S A s.heap H locs → lv_has ls 8 [(0, .ref (aM 0)), (1, .long v1), (3, .int v3), (4, .int v4), (5, .int v5), (6, .int v6)] → W p l e rmX7_type s m args below meth c H locs 0 0 Q (F0 m 11 ls []) := by
    intro E102 hE102 n
    induction n with
    | zero => intro v3 v4 v5 v6 Mline Mthrown Mlength h; simp [LX7_type_11] at h
    | succ n ih =>
    intro v3 v4 v5 v6 Mline Mthrown Mlength h H locs ls hP hD hS hl
    rw [LX7_type_11] at h
    refine lv_iload hx hb dX7_type_11 (lv_at hl 5 rfl) ?_
    refine lv_bipush (v := 8) hx hb dX7_type_13 (by decide) ?_
    refine lv_icmp_ge (tgt := 102) hx hb dX7_type_15 (by decide) (fun c1 => ?_) (fun c1 => ?_)
    · replace h := sf_t c1 h
      exact hE102 _ _ _ _ _ h _ _ _ hP hD hS (lv_sub hl [0, 1, 2, 3] rfl)
    · replace h := sf_f c1 h
      refine lv_lload_n hx hb dX7_type_18 rfl (lv_at hl 1 rfl) ?_
      refine lv_bipush (v := 8) hx hb dX7_type_19 (by decide) ?_
      refine lv_iload hx hb dX7_type_21 (lv_at hl 5 rfl) ?_
      refine lv_imul hx hb dX7_type_23 ?_
      refine lv_lshr (v := jlshr v1 (8 * v6)) hx hb dX7_type_24 rfl ?_
      refine lv_l2i hx hb dX7_type_25 rfl ?_
      refine lv_sipush (v := 255) hx hb dX7_type_26 (by decide) ?_
      refine lv_iand hx hb dX7_type_29 ?_
      refine lv_istore (lv' := [(7, .int (((jlshr v1 (8 * v6)).toInt32) &&& 255)), (0, .ref (aM 0)), (1, .long v1), (3, .int v3), (4, .int v4), (5, .int v5), (6, .int v6)]) hx hb dX7_type_30 hl (by decide) rfl (fun ls hl => ?_)
      refine lv_iload hx hb dX7_type_32 (lv_at hl 4 rfl) ?_
      refine lv_if_eq (tgt := 63) hx hb dX7_type_34 (by decide) (fun c2 => ?_) (fun c2 => ?_)
      · replace h := sf_t c2 h
        exact BH_63 _ ih _ hE102 _ _ _ _ _ _ _ h _ _ _ hP hD hS (lv_sub hl [1, 2, 3, 5, 6, 0] rfl)
      · replace h := sf_f c2 h
        refine lv_iload hx hb dX7_type_37 (lv_at hl 0 rfl) ?_
        refine lv_if_eq (tgt := 59) hx hb dX7_type_39 (by decide) (fun c6 => ?_) (fun c6 => ?_)
        · replace h := sf_t c6 h
          exact BH_59 _ ih _ hE102 _ _ _ _ _ _ _ h _ _ _ hP hD hS (lv_sub hl [1, 2, 3, 5, 6, 0] rfl)
        · replace h := sf_f c6 h
          refine lv_iload hx hb dX7_type_42 (lv_at hl 5 rfl) ?_
          refine lv_if_ne (tgt := 63) hx hb dX7_type_44 (by decide) (fun c7 => ?_) (fun c7 => ?_)
          · replace h := sf_f c7 h
            exact BH_63 _ ih _ hE102 _ _ _ _ _ _ _ h _ _ _ hP hD hS (lv_sub hl [1, 2, 3, 5, 6, 0] rfl)
          · replace h := sf_t c7 h
            refine lv_iload hx hb dX7_type_47 (lv_at hl 0 rfl) ?_
            refine lv_bipush (v := 32) hx hb dX7_type_49 (by decide) ?_
            refine lv_bipush (v := 126) hx hb dX7_type_51 (by decide) ?_
            obtain ⟨r8, hc8, h⟩ := bnd1_inv h
            have hPc := hP.sub (ws' := ([] : va_W)) [] rfl
            have hDc := hD.sub (ws' := ([] : va_W)) [] rfl rfl
            have hFc := va_free (wc := ([] : va_W)) hD hS hA [] rfl
            refine xc_i (va_runS (As := [.int (((jlshr v1 (8 * v6)).toInt32) &&& 255), .int 32, .int 126]) (rest := []) ⟨hx, hb, hml, hown, hts⟩ (met_X7_isIn l D k  H.size (((jlshr v1 (8 * v6)).toInt32) &&& 255) 32 126 r8 hc8) (va_cwS 3 hts gX7_type_X7_isIn rfl rfl rfl (by decide +kernel) ⟨Nat.le_of_ble_eq_true rfl, Nat.le_of_ble_eq_true rfl⟩) ⟨pw_blind, pw_start hPc hK hDc⟩ rfl rfl hl.1 rfl (lv_room (Nat.le_of_ble_eq_true rfl)) dX7_type_53 ⟨Nat.zero_le _, Nat.zero_le _⟩) hS hFc (fun H1 locs hP1 hD1 hk1 hS => ?_)
            obtain ⟨hP, hD⟩ := vj (ws' := (wM k aM Mestimate Munit Msort Mwidth Mmany Mreading Mvariance Mcovariance Mline Mformulas Mroot Mkind Mone Mother Msigns Mplace MleftOf MrightOf Mtype Msum Msign MsignAt Mproduct Mvalue Mslope Mexponent Mdrawn Mslopes Mfrom Mfactor Mthrown Mlength Mmodels Mopen Mat Mrows Mx)) (w1 := ([] : va_W)) hP hD [] [0, 1, 2, 3, 4, 5, 6, 7, 8, 9, 10, 11, 12, 13, 14, 15, 16, 17, 18, 19, 20, 21, 22, 23, 24, 25, 26, 27, 28, 29, 30] [0, 1, 2, 3, 4, 5, 6, 7, 8, 9, 10, 11, 12, 13, 14, 15, 16, 17, 18, 19, 20, 21, 22, 23, 24, 25, 26, 27, 28, 29, 30] rfl rfl rfl rfl rfl hk1 hFc hP1 hD1
            clear hP1 hD1 hk1 hFc
            generalize H1 = H at hP hS ⊢
            refine lv_if_eq (tgt := 63) hx hb dX7_type_56 (by decide) (fun c9 => ?_) (fun c9 => ?_)
            · replace h := sf_t c9 h
              exact BH_63 _ ih _ hE102 _ _ _ _ _ _ _ h _ _ _ hP hD hS (lv_sub hl [1, 2, 3, 5, 6, 0] rfl)
            · replace h := sf_f c9 h
              exact BH_59 _ ih _ hE102 _ _ _ _ _ _ _ h _ _ _ hP hD hS (lv_sub hl [1, 2, 3, 5, 6, 0] rfl)
  have LH_139 : ∀ (E182 : (Nat → Int32) → Int32 → Int32 → Option (Int32 × (Nat → Int32) × Int32 × Int32)) (hE182 : ∀ (Mline : Nat → Int32) (Mthrown : Int32) (Mlength : Int32), E182 Mline Mthrown Mlength = some (r, RMline, RMthrown, RMlength) → ∀ (H : Heap) (locs : List Loc) (ls : Array Slot), va_P D vwCl (wM k aM Mestimate Munit Msort Mwidth Mmany Mreading Mvariance Mcovariance Mline Mformulas Mroot Mkind Mone Mother Msigns Mplace MleftOf MrightOf Mtype Msum Msign MsignAt Mproduct Mvalue Mslope Mexponent Mdrawn Mslopes Mfrom Mfactor Mthrown Mlength Mmodels Mopen Mat Mrows Mx) H → va_D A (wM k aM Mestimate Munit Msort Mwidth Mmany Mreading Mvariance Mcovariance Mline Mformulas Mroot Mkind Mone Mother Msigns Mplace MleftOf MrightOf Mtype Msum Msign MsignAt Mproduct Mvalue Mslope Mexponent Mdrawn Mslopes Mfrom Mfactor Mthrown Mlength Mmodels Mopen Mat Mrows Mx) → va_S A s.heap H locs → lv_has ls 8 [(0, .ref (aM 0))] → W p l e rmX7_type s m args below meth c H locs 0 0 Q (F0 m 182 ls [])) (n : Nat) (v3 : Int32) (v6 : Int32) (Mline : Nat → Int32) (Mthrown : Int32) (Mlength : Int32), LX7_type_139 v1 E182 n v3 v6 Mline Mthrown Mlength = some (r, RMline, RMthrown, RMlength) → ∀ (H : Heap) (locs : List Loc) (ls : Array Slot), va_P D vwCl (wM k aM Mestimate Munit Msort Mwidth Mmany Mreading Mvariance Mcovariance Mline Mformulas Mroot Mkind Mone Mother Msigns Mplace MleftOf MrightOf Mtype Msum Msign MsignAt Mproduct Mvalue Mslope Mexponent Mdrawn Mslopes Mfrom Mfactor Mthrown Mlength Mmodels Mopen Mat Mrows Mx) H → va_D A (wM k aM Mestimate Munit Msort Mwidth Mmany Mreading Mvariance Mcovariance Mline Mformulas Mroot Mkind Mone Mother Msigns Mplace MleftOf MrightOf Mtype Msum Msign MsignAt Mproduct Mvalue Mslope Mexponent Mdrawn Mslopes Mfrom Mfactor Mthrown Mlength Mmodels Mopen Mat Mrows Mx) → va_S A s.heap H locs → lv_has ls 8 [(0, .ref (aM 0)), (1, .long v1), (3, .int v3), (6, .int v6)] → W p l e rmX7_type s m args below meth c H locs 0 0 Q (F0 m 139 ls []) := by
    intro E182 hE182 n
    induction n with
    | zero => intro v3 v6 Mline Mthrown Mlength h; simp [LX7_type_139] at h
    | succ n ih =>
    intro v3 v6 Mline Mthrown Mlength h H locs ls hP hD hS hl
    rw [LX7_type_139] at h
    refine lv_iload hx hb dX7_type_139 (lv_at hl 3 rfl) ?_
    refine lv_iload_n hx hb dX7_type_141 rfl (lv_at hl 2 rfl) ?_
    refine lv_icmp_ge (tgt := 182) hx hb dX7_type_142 (by decide) (fun c14 => ?_) (fun c14 => ?_)
    · replace h := sf_t c14 h
      exact hE182 _ _ _ h _ _ _ hP hD hS (lv_sub hl [0] rfl)
    · replace h := sf_f c14 h
      refine lv_aload_n hx hb dX7_type_145 rfl (lv_at hl 0 rfl) ?_
      refine va_get (D := D) (ci := 7) (v := .ref (aM 9)) (C := RX7) (T := TX7) (N := 37) hx hb hts iX7 hown hK hP 0 rfl rfl 9 (by decide) f34 (fun _ h9 => h9) rfl dX7_type_146 ?_
      refine lv_aload_n hx hb dX7_type_149 rfl (lv_at hl 0 rfl) ?_
      refine va_get (D := D) (ci := 7) (v := .int Mlength) (C := RX7) (T := TX7) (N := 37) hx hb hts iX7 hown hK hP 0 rfl rfl 10 (by decide) f136 (fun _ h9 => h9) rfl dX7_type_150 ?_
      refine lv_lload_n hx hb dX7_type_153 rfl (lv_at hl 1 rfl) ?_
      refine lv_bipush (v := 8) hx hb dX7_type_154 (by decide) ?_
      refine lv_iload hx hb dX7_type_156 (lv_at hl 3 rfl) ?_
      refine lv_imul hx hb dX7_type_158 ?_
      refine lv_lshr (v := jlshr v1 (8 * v6)) hx hb dX7_type_159 rfl ?_
      refine lv_l2i hx hb dX7_type_160 rfl ?_
      refine lv_sipush (v := 255) hx hb dX7_type_161 (by decide) ?_
      refine lv_iand hx hb dX7_type_164 ?_
      obtain ⟨hi15, h⟩ := gi_inv h
      refine va_iast hx hb hK hP hD hS 9 0 rfl rfl hi15 dX7_type_165 (fun H locs hP hD hS => ?_)
      replace hP : va_P D vwCl (wM k aM Mestimate Munit Msort Mwidth Mmany Mreading Mvariance Mcovariance (upd Mline (Mlength.toNatClampNeg) (((jlshr v1 (8 * v6)).toInt32) &&& 255)) Mformulas Mroot Mkind Mone Mother Msigns Mplace MleftOf MrightOf Mtype Msum Msign MsignAt Mproduct Mvalue Mslope Mexponent Mdrawn Mslopes Mfrom Mfactor Mthrown Mlength Mmodels Mopen Mat Mrows Mx) H := hP
      replace hD : va_D A (wM k aM Mestimate Munit Msort Mwidth Mmany Mreading Mvariance Mcovariance (upd Mline (Mlength.toNatClampNeg) (((jlshr v1 (8 * v6)).toInt32) &&& 255)) Mformulas Mroot Mkind Mone Mother Msigns Mplace MleftOf MrightOf Mtype Msum Msign MsignAt Mproduct Mvalue Mslope Mexponent Mdrawn Mslopes Mfrom Mfactor Mthrown Mlength Mmodels Mopen Mat Mrows Mx) := hD
      refine lv_aload_n hx hb dX7_type_166 rfl (lv_at hl 0 rfl) ?_
      refine lv_dup hx hb dX7_type_167 rfl ?_
      refine va_get (D := D) (ci := 7) (v := .int Mlength) (C := RX7) (T := TX7) (N := 37) hx hb hts iX7 hown hK hP 0 rfl rfl 10 (by decide) f136 (fun _ h9 => h9) rfl dX7_type_168 ?_
      refine lv_iconst (v := 1) hx hb dX7_type_171 (by decide) ?_
      refine lv_iadd hx hb dX7_type_172 ?_
      refine va_put (D := D) (ci := 7) (v := .int (Mlength + 1)) (ty := .int) (C := RX7) (T := TX7) (N := 37) hx hb hts iX7 tyX7 tyX7_ok nmX7 hown hK hP hD hS 0 rfl rfl 10 (by decide) f136 (fun _ h9 => h9) rfl (by decide +kernel) rfl rfl (Nat.le_of_ble_eq_true rfl) dX7_type_173 (fun H locs hP hD hS => ?_)
      replace hP : va_P D vwCl (wM k aM Mestimate Munit Msort Mwidth Mmany Mreading Mvariance Mcovariance (upd Mline (Mlength.toNatClampNeg) (((jlshr v1 (8 * v6)).toInt32) &&& 255)) Mformulas Mroot Mkind Mone Mother Msigns Mplace MleftOf MrightOf Mtype Msum Msign MsignAt Mproduct Mvalue Mslope Mexponent Mdrawn Mslopes Mfrom Mfactor Mthrown (Mlength + 1) Mmodels Mopen Mat Mrows Mx) H := hP
      replace hD : va_D A (wM k aM Mestimate Munit Msort Mwidth Mmany Mreading Mvariance Mcovariance (upd Mline (Mlength.toNatClampNeg) (((jlshr v1 (8 * v6)).toInt32) &&& 255)) Mformulas Mroot Mkind Mone Mother Msigns Mplace MleftOf MrightOf Mtype Msum Msign MsignAt Mproduct Mvalue Mslope Mexponent Mdrawn Mslopes Mfrom Mfactor Mthrown (Mlength + 1) Mmodels Mopen Mat Mrows Mx) := hD
      refine lv_iinc (v := v6 + 1) (lv' := [(6, .int (v6 + 1)), (0, .ref (aM 0)), (1, .long v1), (3, .int v3)]) hx hb dX7_type_176 hl (k := 3) rfl rfl (by decide) rfl (fun ls hl => ?_)
      refine lv_goto (tgt := 139) hx hb dX7_type_179 (by decide) ?_
      exact ih _ _ _ _ _ h _ _ _ hP hD hS (lv_sub hl [1, 2, 3, 0] rfl)
  have BH_128 : ∀ (v3 : Int32) (s1 : Int32) (Mline : Nat → Int32) (Mthrown : Int32) (Mlength : Int32), BX7_type_128 v1 v3 s1 Mline Mthrown Mlength = some (r, RMline, RMthrown, RMlength) → ∀ (H : Heap) (locs : List Loc) (ls : Array Slot), va_P D vwCl (wM k aM Mestimate Munit Msort Mwidth Mmany Mreading Mvariance Mcovariance Mline Mformulas Mroot Mkind Mone Mother Msigns Mplace MleftOf MrightOf Mtype Msum Msign MsignAt Mproduct Mvalue Mslope Mexponent Mdrawn Mslopes Mfrom Mfactor Mthrown Mlength Mmodels Mopen Mat Mrows Mx) H → va_D A (wM k aM Mestimate Munit Msort Mwidth Mmany Mreading Mvariance Mcovariance Mline Mformulas Mroot Mkind Mone Mother Msigns Mplace MleftOf MrightOf Mtype Msum Msign MsignAt Mproduct Mvalue Mslope Mexponent Mdrawn Mslopes Mfrom Mfactor Mthrown Mlength Mmodels Mopen Mat Mrows Mx) → va_S A s.heap H locs → lv_has ls 8 [(0, .ref (aM 0)), (1, .long v1), (3, .int v3)] → W p l e rmX7_type s m args below meth c H locs 0 0 Q (F0 m 128 ls [.int s1, .ref (aM 0)]) := by
    intro  v3 s1 Mline Mthrown Mlength h H locs ls hP hD hS hl
    unfold BX7_type_128 at h
    obtain ⟨r12, thrown_12, hc12, h⟩ := bnd2_inv h
    have hFc := va_free (wc := (wM k aM Mestimate Munit Msort Mwidth Mmany Mreading Mvariance Mcovariance Mline Mformulas Mroot Mkind Mone Mother Msigns Mplace MleftOf MrightOf Mtype Msum Msign MsignAt Mproduct Mvalue Mslope Mexponent Mdrawn Mslopes Mfrom Mfactor Mthrown Mlength Mmodels Mopen Mat Mrows Mx)) hD hS hA [0, 1, 2, 3, 4, 5, 6, 7, 8, 9, 10, 11, 12, 13, 14, 15, 16, 17, 18, 19, 20, 21, 22, 23, 24, 25, 26, 27, 28, 29, 30] rfl
    refine xc_i (va_runV (As := [.int s1]) (rest := []) ⟨hx, hb, hml, hown, hts⟩ (met_X7_holds l D k  aM H.size Mestimate Munit Msort Mwidth Mmany Mreading Mvariance Mcovariance Mline Mformulas Mroot Mkind Mone Mother Msigns Mplace MleftOf MrightOf Mtype Msum Msign MsignAt Mproduct Mvalue Mslope Mexponent Mdrawn Mslopes Mfrom Mfactor Mthrown Mlength Mmodels Mopen Mat Mrows Mx s1 r12 thrown_12 hc12) (cwV 1 hts gX7_type_X7_holds rfl rfl rfl (by decide +kernel) ⟨Nat.le_of_ble_eq_true rfl, Nat.le_of_ble_eq_true rfl⟩) ⟨pw_blind, va_recv hK hP (ci := 7) (q0 := 0) rfl rfl, pw_start hP hK hD⟩ rfl rfl hl.1 rfl (lv_room (Nat.le_of_ble_eq_true rfl)) dX7_type_128 ⟨Nat.zero_le _, Nat.zero_le _⟩) hS hFc (fun H1 locs hP1 hD1 hk1 hS => ?_)
    obtain ⟨hP, hD⟩ := vj_all hFc hP1 hD1
    clear hP1 hD1 hk1 hFc
    generalize H1 = H at hP hS ⊢
    refine lv_if_ne (tgt := 136) hx hb dX7_type_131 (by decide) (fun c13 => ?_) (fun c13 => ?_)
    · replace h := sf_f c13 h
      refine lv_iconst (v := 0) hx hb dX7_type_136 (by decide) ?_
      refine lv_istore (lv' := [(6, .int 0), (0, .ref (aM 0)), (1, .long v1), (3, .int v3)]) hx hb dX7_type_137 hl (by decide) rfl (fun ls hl => ?_)
      refine LH_139 _ (fun Mline Mthrown Mlength h H locs ls hP hD hS hl => ?_) _ _ _ _ _ _ h _ _ _ hP hD hS (lv_sub hl [1, 2, 3, 0] rfl)
      · skip
        refine lv_aload_n hx hb dX7_type_182 rfl (lv_at hl 0 rfl) ?_
        refine va_get (D := D) (ci := 7) (v := .int Mlength) (C := RX7) (T := TX7) (N := 37) hx hb hts iX7 hown hK hP 0 rfl rfl 10 (by decide) f136 (fun _ h9 => h9) rfl dX7_type_183 ?_
        have hP9 := hP
        have hD9 := hD
        have hS9 := hS
        subst hQ
        cases h
        exact W.iret hx hb hr (fun t ht hW => ⟨⟨_, (), rfl, rfl, by rw [ht]; exact hP9, va_K.moved hW.alike hK, hD9⟩, hS9.F ht⟩) hS9.2.2 dX7_type_186
    · replace h := sf_t c13 h
      refine lv_iconst (v := 0) hx hb dX7_type_134 (by decide) ?_
      have hP9 := hP
      have hD9 := hD
      have hS9 := hS
      subst hQ
      cases h
      exact W.iret hx hb hr (fun t ht hW => ⟨⟨_, (), rfl, rfl, by rw [ht]; exact hP9, va_K.moved hW.alike hK, hD9⟩, hS9.F ht⟩) hS9.2.2 dX7_type_135
  suffices main : ∀ (H : Heap) (locs : List Loc) (ls : Array Slot), va_P D vwCl (wM k aM Mestimate Munit Msort Mwidth Mmany Mreading Mvariance Mcovariance Mline Mformulas Mroot Mkind Mone Mother Msigns Mplace MleftOf MrightOf Mtype Msum Msign MsignAt Mproduct Mvalue Mslope Mexponent Mdrawn Mslopes Mfrom Mfactor Mthrown Mlength Mmodels Mopen Mat Mrows Mx) H → va_D A (wM k aM Mestimate Munit Msort Mwidth Mmany Mreading Mvariance Mcovariance Mline Mformulas Mroot Mkind Mone Mother Msigns Mplace MleftOf MrightOf Mtype Msum Msign MsignAt Mproduct Mvalue Mslope Mexponent Mdrawn Mslopes Mfrom Mfactor Mthrown Mlength Mmodels Mopen Mat Mrows Mx) → va_S A s.heap H locs → lv_has ls 8 [(0, .ref (aM 0)), (1, .long v1)] → W p l e rmX7_type s m args below meth c H locs 0 0 Q (F0 m 0 ls []) from main _ _ _ hP hD hS hl
  clear hP hD hS hl ls hAe
  intro H locs ls hP hD hS hl
  refine lv_iconst (v := 0) hx hb dX7_type_0 (by decide) ?_
  refine lv_istore_n (lv' := [(3, .int 0), (0, .ref (aM 0)), (1, .long v1)]) hx hb dX7_type_1 rfl hl (by decide) rfl (fun ls hl => ?_)
  refine lv_iconst (v := 1) hx hb dX7_type_2 (by decide) ?_
  refine lv_istore (lv' := [(4, .int 1), (3, .int 0), (0, .ref (aM 0)), (1, .long v1)]) hx hb dX7_type_3 hl (by decide) rfl (fun ls hl => ?_)
  refine lv_iconst (v := 0) hx hb dX7_type_5 (by decide) ?_
  refine lv_istore (lv' := [(5, .int 0), (4, .int 1), (3, .int 0), (0, .ref (aM 0)), (1, .long v1)]) hx hb dX7_type_6 hl (by decide) rfl (fun ls hl => ?_)
  refine lv_iconst (v := 0) hx hb dX7_type_8 (by decide) ?_
  refine lv_istore (lv' := [(6, .int 0), (5, .int 0), (4, .int 1), (3, .int 0), (0, .ref (aM 0)), (1, .long v1)]) hx hb dX7_type_9 hl (by decide) rfl (fun ls hl => ?_)
  refine LH_11 _ (fun v3 v4 Mline Mthrown Mlength h H locs ls hP hD hS hl => ?_) _ _ _ _ _ _ _ _ h _ _ _ hP hD hS (lv_sub hl [4, 5, 3, 2, 1, 0] rfl)
  · skip
    refine lv_aload_n hx hb dX7_type_102 rfl (lv_at hl 0 rfl) ?_
    refine lv_iload hx hb dX7_type_103 (lv_at hl 3 rfl) ?_
    refine lv_if_ne (tgt := 112) hx hb dX7_type_105 (by decide) (fun c10 => ?_) (fun c10 => ?_)
    · replace h := sf_f c10 h
      refine lv_aload_n hx hb dX7_type_112 rfl (lv_at hl 0 rfl) ?_
      refine va_get (D := D) (ci := 7) (v := .int Mlength) (C := RX7) (T := TX7) (N := 37) hx hb hts iX7 hown hK hP 0 rfl rfl 10 (by decide) f136 (fun _ h9 => h9) rfl dX7_type_113 ?_
      refine lv_iload_n hx hb dX7_type_116 rfl (lv_at hl 2 rfl) ?_
      refine lv_iadd hx hb dX7_type_117 ?_
      refine lv_bipush (v := 60) hx hb dX7_type_118 (by decide) ?_
      refine lv_icmp_le (tgt := 127) hx hb dX7_type_120 (by decide) (fun c11 => ?_) (fun c11 => ?_)
      · replace h := sf_t c11 h
        refine lv_iconst (v := 0) hx hb dX7_type_127 (by decide) ?_
        exact BH_128  _ _ _ _ _ h _ _ _ hP hD hS (lv_sub hl [0, 1, 2] rfl)
      · replace h := sf_f c11 h
        refine lv_iconst (v := 2) hx hb dX7_type_123 (by decide) ?_
        refine lv_goto (tgt := 128) hx hb dX7_type_124 (by decide) ?_
        exact BH_128  _ _ _ _ _ h _ _ _ hP hD hS (lv_sub hl [0, 1, 2] rfl)
    · replace h := sf_t c10 h
      refine lv_iconst (v := 1) hx hb dX7_type_108 (by decide) ?_
      refine lv_goto (tgt := 128) hx hb dX7_type_109 (by decide) ?_
      exact BH_128  _ _ _ _ _ h _ _ _ hP hD hS (lv_sub hl [0, 1, 2] rfl)
