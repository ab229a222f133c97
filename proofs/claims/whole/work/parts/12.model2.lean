def BX7_model_82 (Mline : Nat → Int32) (v1 : Int32)  (s1 : Int32) (s2 : Int32) (Mformulas : Nat → Int32) (Mroot : Nat → Int32) (Mkind : Nat → Int32) (Mone : Nat → Int32) (Mother : Nat → Int32) (Msigns : Nat → Int32) (Mplace : Nat → Int32) (MleftOf : Nat → Int32) (MrightOf : Nat → Int32) (Mtype : Nat → Int32) (Msum : Nat → Int32) (Msign : Nat → Int32) (MsignAt : Nat → Int32) (Mproduct : Nat → Int32) (Mthrown : Int32) (Mlength : Int32) (Mmodels : Int32) (Mopen : Int32) (Mat : Int32) : Option (Int32 × (Nat → Int32) × (Nat → Int32) × (Nat → Int32) × (Nat → Int32) × (Nat → Int32) × (Nat → Int32) × (Nat → Int32) × (Nat → Int32) × (Nat → Int32) × (Nat → Int32) × (Nat → Int32) × (Nat → Int32) × (Nat → Int32) × (Nat → Int32) × Int32 × Int32 × Int32 × Int32 × Int32) := gi v1 9 (some (Mformulas v1.toNatClampNeg, Mformulas, Mroot, Mkind, Mone, Mother, Msigns, Mplace, MleftOf, MrightOf, Mtype, Msum, Msign, MsignAt, Mproduct, Mthrown, Mlength, s1 + s2, Mopen, Mat))
def BX7_model_28 (Mline : Nat → Int32) (v1 : Int32)  (s1 : Int32) (Mformulas : Nat → Int32) (Mroot : Nat → Int32) (Mkind : Nat → Int32) (Mone : Nat → Int32) (Mother : Nat → Int32) (Msigns : Nat → Int32) (Mplace : Nat → Int32) (MleftOf : Nat → Int32) (MrightOf : Nat → Int32) (Mtype : Nat → Int32) (Msum : Nat → Int32) (Msign : Nat → Int32) (MsignAt : Nat → Int32) (Mproduct : Nat → Int32) (Mthrown : Int32) (Mlength : Int32) (Mmodels : Int32) (Mopen : Int32) (Mat : Int32) : Option (Int32 × (Nat → Int32) × (Nat → Int32) × (Nat → Int32) × (Nat → Int32) × (Nat → Int32) × (Nat → Int32) × (Nat → Int32) × (Nat → Int32) × (Nat → Int32) × (Nat → Int32) × (Nat → Int32) × (Nat → Int32) × (Nat → Int32) × (Nat → Int32) × Int32 × Int32 × Int32 × Int32 × Int32) := bnd2 (fX7_holds s1 Mthrown) (fun r4 thrown_4 => (if r4 = 0 then some (0, Mformulas, Mroot, Mkind, Mone, Mother, Msigns, Mplace, MleftOf, MrightOf, Mtype, Msum, Msign, MsignAt, Mproduct, thrown_4, Mlength, Mmodels, Mopen, Mat) else bnd16 (fX7_reads Mline Mformulas Mkind Mone Mother Msigns Mplace MleftOf MrightOf Mtype Msum Msign MsignAt Mproduct Mlength Mopen Mat) (fun r6 formulas_6 kind_6 one_6 other_6 signs_6 place_6 leftOf_6 rightOf_6 type__6 sum_6 sign_6 signAt_6 product_6 open__6 at__6 => (if r6 = ((-1)) then some (((-1)) - at__6, formulas_6, Mroot, kind_6, one_6, other_6, signs_6, place_6, leftOf_6, rightOf_6, type__6, sum_6, sign_6, signAt_6, product_6, thrown_4, 0, Mmodels, open__6, at__6) else bnd9 (fX7_keeps v1 r6 formulas_6 Mroot kind_6 one_6 other_6 signs_6 place_6 leftOf_6 rightOf_6) (fun formulas_8 root_8 kind_8 one_8 other_8 signs_8 place_8 leftOf_8 rightOf_8 => (if v1 = Mmodels then BX7_model_82 Mline v1 Mmodels 1 formulas_8 root_8 kind_8 one_8 other_8 signs_8 place_8 leftOf_8 rightOf_8 type__6 sum_6 sign_6 signAt_6 product_6 thrown_4 0 Mmodels open__6 at__6 else BX7_model_82 Mline v1 Mmodels 0 formulas_8 root_8 kind_8 one_8 other_8 signs_8 place_8 leftOf_8 rightOf_8 type__6 sum_6 sign_6 signAt_6 product_6 thrown_4 0 Mmodels open__6 at__6))))))
def fX7_model (v1 : Int32) (Mline : Nat → Int32) (Mformulas : Nat → Int32) (Mroot : Nat → Int32) (Mkind : Nat → Int32) (Mone : Nat → Int32) (Mother : Nat → Int32) (Msigns : Nat → Int32) (Mplace : Nat → Int32) (MleftOf : Nat → Int32) (MrightOf : Nat → Int32) (Mtype : Nat → Int32) (Msum : Nat → Int32) (Msign : Nat → Int32) (MsignAt : Nat → Int32) (Mproduct : Nat → Int32) (Mthrown : Int32) (Mlength : Int32) (Mmodels : Int32) (Mopen : Int32) (Mat : Int32) : Option (Int32 × (Nat → Int32) × (Nat → Int32) × (Nat → Int32) × (Nat → Int32) × (Nat → Int32) × (Nat → Int32) × (Nat → Int32) × (Nat → Int32) × (Nat → Int32) × (Nat → Int32) × (Nat → Int32) × (Nat → Int32) × (Nat → Int32) × (Nat → Int32) × Int32 × Int32 × Int32 × Int32 × Int32) := bnd1 (fX7_isIn v1 0 Mmodels) (fun r1 => (if r1 = 0 then BX7_model_28 Mline v1 1 Mformulas Mroot Mkind Mone Mother Msigns Mplace MleftOf MrightOf Mtype Msum Msign MsignAt Mproduct Mthrown Mlength Mmodels Mopen Mat else (if v1 = 8 then BX7_model_28 Mline v1 2 Mformulas Mroot Mkind Mone Mother Msigns Mplace MleftOf MrightOf Mtype Msum Msign MsignAt Mproduct Mthrown Mlength Mmodels Mopen Mat else BX7_model_28 Mline v1 0 Mformulas Mroot Mkind Mone Mother Msigns Mplace MleftOf MrightOf Mtype Msum Msign MsignAt Mproduct Mthrown Mlength Mmodels Mopen Mat)))
abbrev rmX7_model : Room := { frames := 4, cells := 0, slots := 0, locals := 89 }
set_option maxHeartbeats 4000000 in
set_option maxRecDepth 100000 in
theorem met_X7_model (l : Launch) (D : va_G) (k : Nat → ClassId)  (aM : Nat → Nat) (sz : Nat) (Mestimate : Nat → Int32) (Munit : Nat → Int32) (Msort : Nat → Int32) (Mwidth : Nat → Int32) (Mmany : Nat → Int32) (Mreading : Nat → Int32) (Mvariance : Nat → Int32) (Mcovariance : Nat → Int32) (Mline : Nat → Int32) (Mformulas : Nat → Int32) (Mroot : Nat → Int32) (Mkind : Nat → Int32) (Mone : Nat → Int32) (Mother : Nat → Int32) (Msigns : Nat → Int32) (Mplace : Nat → Int32) (MleftOf : Nat → Int32) (MrightOf : Nat → Int32) (Mtype : Nat → Int32) (Msum : Nat → Int32) (Msign : Nat → Int32) (MsignAt : Nat → Int32) (Mproduct : Nat → Int32) (Mvalue : Nat → Int64) (Mslope : Nat → Int64) (Mexponent : Nat → Int32) (Mdrawn : Nat → Int32) (Mslopes : Nat → Int64) (Mfrom : Nat → Int32) (Mfactor : Nat → Int32) (Mthrown : Int32) (Mlength : Int32) (Mmodels : Int32) (Mopen : Int32) (Mat : Int32) (Mrows : Int32) (Mx : Int32) (v1 : Int32) (r : Int32) (RMformulas : Nat → Int32) (RMroot : Nat → Int32) (RMkind : Nat → Int32) (RMone : Nat → Int32) (RMother : Nat → Int32) (RMsigns : Nat → Int32) (RMplace : Nat → Int32) (RMleftOf : Nat → Int32) (RMrightOf : Nat → Int32) (RMtype : Nat → Int32) (RMsum : Nat → Int32) (RMsign : Nat → Int32) (RMsignAt : Nat → Int32) (RMproduct : Nat → Int32) (RMthrown : Int32) (RMlength : Int32) (RMmodels : Int32) (RMopen : Int32) (RMat : Int32) (h : fX7_model v1 Mline Mformulas Mroot Mkind Mone Mother Msigns Mplace MleftOf MrightOf Mtype Msum Msign MsignAt Mproduct Mthrown Mlength Mmodels Mopen Mat = some (r, RMformulas, RMroot, RMkind, RMone, RMother, RMsigns, RMplace, RMleftOf, RMrightOf, RMtype, RMsum, RMsign, RMsignAt, RMproduct, RMthrown, RMlength, RMmodels, RMopen, RMat)) : Met l yX7_model wsX7_model rmX7_model (va_Pc [.ref (aM 0), .int v1] (PreW D k (wM k aM Mestimate Munit Msort Mwidth Mmany Mreading Mvariance Mcovariance Mline Mformulas Mroot Mkind Mone Mother Msigns Mplace MleftOf MrightOf Mtype Msum Msign MsignAt Mproduct Mvalue Mslope Mexponent Mdrawn Mslopes Mfrom Mfactor Mthrown Mlength Mmodels Mopen Mat Mrows Mx) sz)) (va_Qi (fun r9 (_ : Unit) => r9 = r) (fun _ t => PostW D k (va_A (wM k aM Mestimate Munit Msort Mwidth Mmany Mreading Mvariance Mcovariance Mline Mformulas Mroot Mkind Mone Mother Msigns Mplace MleftOf MrightOf Mtype Msum Msign MsignAt Mproduct Mvalue Mslope Mexponent Mdrawn Mslopes Mfrom Mfactor Mthrown Mlength Mmodels Mopen Mat Mrows Mx) sz) (wM k aM Mestimate Munit Msort Mwidth Mmany Mreading Mvariance Mcovariance Mline RMformulas RMroot RMkind RMone RMother RMsigns RMplace RMleftOf RMrightOf RMtype RMsum RMsign RMsignAt RMproduct Mvalue Mslope Mexponent Mdrawn Mslopes Mfrom Mfactor RMthrown RMlength RMmodels RMopen RMat Mrows Mx) t) (va_A (wM k aM Mestimate Munit Msort Mwidth Mmany Mreading Mvariance Mcovariance Mline Mformulas Mroot Mkind Mone Mother Msigns Mplace MleftOf MrightOf Mtype Msum Msign MsignAt Mproduct Mvalue Mslope Mexponent Mdrawn Mslopes Mfrom Mfactor Mthrown Mlength Mmodels Mopen Mat Mrows Mx) sz)) 0 0 (va_A (wM k aM Mestimate Munit Msort Mwidth Mmany Mreading Mvariance Mcovariance Mline Mformulas Mroot Mkind Mone Mother Msigns Mplace MleftOf MrightOf Mtype Msum Msign MsignAt Mproduct Mvalue Mslope Mexponent Mdrawn Mslopes Mfrom Mfactor Mthrown Mlength Mmodels Mopen Mat Mrows Mx) sz) := by
  refine Met.ofW (cc := cX7_model) (maxL := 3) (ret := (some .int)) (by decide) rfl ?_
  intro p e s m args below meth c s₁ B hml hv
  obtain ⟨hav, hsz, hP, hK, hD0⟩ := hv
  have hx := B.exec
  have hb := B.bytes
  have hr := B.returns
  have hts := atoms_spec (ws := wsX7_model) B.pre
  have hown : s.vm.findClass RX7 = some m.cls := findClass_of_methodNamed B.named
  have hlocks := B.notSynchronized
  subst hsz
  have hD := hD0.self (sz := s.heap.size)
  clear hD0
  generalize hAe : va_A (wM k aM Mestimate Munit Msort Mwidth Mmany Mreading Mvariance Mcovariance Mline Mformulas Mroot Mkind Mone Mother Msigns Mplace MleftOf MrightOf Mtype Msum Msign MsignAt Mproduct Mvalue Mslope Mexponent Mdrawn Mslopes Mfrom Mfactor Mthrown Mlength Mmodels Mopen Mat Mrows Mx) s.heap.size = A at hD ⊢
  have hA : ∀ q : Nat, s.heap.size ≤ q → A q := fun q h => by rw [← hAe]; exact Or.inr h
  have hS : va_S A s.heap s.heap [] := va_S.rf
  have hl := lv_entry ([.ref (aM 0), .int v1]) (n := 3) (Nat.le_of_ble_eq_true rfl)
  rw [show entryFrame m args 3 = entryFrame m ([.ref (aM 0), .int v1] : List Value).toArray 3 from by rw [hav], lg_entry_eq]
  generalize (lg_sl ([.ref (aM 0), .int v1]) ++ List.replicate (3 - (lg_sl ([.ref (aM 0), .int v1])).length) Slot.unset).toArray = ls at hl ⊢
  replace hl : lv_has ls 3 [(0, .ref (aM 0)), (1, .int v1)] := hl
  have f37 := hts (.fieldLink RX7 37 "UncertainBookModel" "formulas" "[I") (by decide +kernel)
  have f115 := hts (.fieldLink RX7 115 "UncertainBookModel" "models" "I") (by decide +kernel)
  have f136 := hts (.fieldLink RX7 136 "UncertainBookModel" "length" "I") (by decide +kernel)
  have f139 := hts (.fieldLink RX7 139 "UncertainBookModel" "at" "I") (by decide +kernel)
  have iX7 : ∀ w ∈ u_ws RX7 TX7 37, w ∈ wsX7_model := by decide +kernel
  refine w_q (fun Q hQ => ?_)
  unfold fX7_model at h
  show W p l e rmX7_model s m args below meth c s.heap [] 0 0 Q (F0 m 0 ls [])
  have BH_82 : ∀ (s1 : Int32) (s2 : Int32) (Mformulas : Nat → Int32) (Mroot : Nat → Int32) (Mkind : Nat → Int32) (Mone : Nat → Int32) (Mother : Nat → Int32) (Msigns : Nat → Int32) (Mplace : Nat → Int32) (MleftOf : Nat → Int32) (MrightOf : Nat → Int32) (Mtype : Nat → Int32) (Msum : Nat → Int32) (Msign : Nat → Int32) (MsignAt : Nat → Int32) (Mproduct : Nat → Int32) (Mthrown : Int32) (Mlength : Int32) (Mmodels : Int32) (Mopen : Int32) (Mat : Int32), BX7_model_82 Mline v1 s1 s2 Mformulas Mroot Mkind Mone Mother Msigns Mplace MleftOf MrightOf Mtype Msum Msign MsignAt Mproduct Mthrown Mlength Mmodels Mopen Mat = some (r, RMformulas, RMroot, RMkind, RMone, RMother, RMsigns, RMplace, RMleftOf, RMrightOf, RMtype, RMsum, RMsign, RMsignAt, RMproduct, RMthrown, RMlength, RMmodels, RMopen, RMat) → ∀ (H : Heap) (locs : List Loc) (ls : Array Slot), va_P D vwCl (wM k aM Mestimate Munit Msort Mwidth Mmany Mreading Mvariance Mcovariance Mline Mformulas Mroot Mkind Mone Mother Msigns Mplace MleftOf MrightOf Mtype Msum Msign MsignAt Mproduct Mvalue Mslope Mexponent Mdrawn Mslopes Mfrom Mfactor Mthrown Mlength Mmodels Mopen Mat Mrows Mx) H → va_D A (wM k aM Mestimate Munit Msort Mwidth Mmany Mreading Mvariance Mcovariance Mline Mformulas Mroot Mkind Mone Mother Msigns Mplace MleftOf MrightOf Mtype Msum Msign MsignAt Mproduct Mvalue Mslope Mexponent Mdrawn Mslopes Mfrom Mfactor Mthrown Mlength Mmodels Mopen Mat Mrows Mx) → va_S A s.heap H locs → lv_has ls 3 [(0, .ref (aM 0)), (1, .int v1)] → W p l e rmX7_model s m args below meth c H locs 0 0 Q (F0 m 82 ls [.int s2, .int s1, .ref (aM 0)]) := by
    intro  s1 s2 Mformulas Mroot Mkind Mone Mother Msigns Mplace MleftOf MrightOf Mtype Msum Msign MsignAt Mproduct Mthrown Mlength Mmodels Mopen Mat h H locs ls hP hD hS hl
    unfold BX7_model_82 at h
    refine lv_iadd hx hb dX7_model_82 ?_
    refine va_put (D := D) (ci := 7) (v := .int (s1 + s2)) (ty := .int) (C := RX7) (T := TX7) (N := 37) hx hb hts iX7 tyX7 tyX7_ok nmX7 hown hK hP hD hS 0 rfl rfl 11 (by decide) f115 (fun _ h9 => h9) rfl (by decide +kernel) rfl rfl (Nat.le_of_ble_eq_true rfl) dX7_model_83 (fun H locs hP hD hS => ?_)
    replace hP : va_P D vwCl (wM k aM Mestimate Munit Msort Mwidth Mmany Mreading Mvariance Mcovariance Mline Mformulas Mroot Mkind Mone Mother Msigns Mplace MleftOf MrightOf Mtype Msum Msign MsignAt Mproduct Mvalue Mslope Mexponent Mdrawn Mslopes Mfrom Mfactor Mthrown Mlength (s1 + s2) Mopen Mat Mrows Mx) H := hP
    replace hD : va_D A (wM k aM Mestimate Munit Msort Mwidth Mmany Mreading Mvariance Mcovariance Mline Mformulas Mroot Mkind Mone Mother Msigns Mplace MleftOf MrightOf Mtype Msum Msign MsignAt Mproduct Mvalue Mslope Mexponent Mdrawn Mslopes Mfrom Mfactor Mthrown Mlength (s1 + s2) Mopen Mat Mrows Mx) := hD
    refine lv_aload_n hx hb dX7_model_86 rfl (lv_at hl 0 rfl) ?_
    refine va_get (D := D) (ci := 7) (v := .ref (aM 10)) (C := RX7) (T := TX7) (N := 37) hx hb hts iX7 hown hK hP 0 rfl rfl 12 (by decide) f37 (fun _ h9 => h9) rfl dX7_model_87 ?_
    refine lv_iload_n hx hb dX7_model_90 rfl (lv_at hl 1 rfl) ?_
    obtain ⟨hi10, h⟩ := gi_inv h
    refine va_iald hx hb hK hP 10 0 rfl rfl hi10 dX7_model_91 ?_
    have hP9 := hP
    have hD9 := hD
    have hS9 := hS
    subst hQ
    simp only [Option.some.injEq, Prod.mk.injEq] at h
    obtain ⟨rfl, rfl, rfl, rfl, rfl, rfl, rfl, rfl, rfl, rfl, rfl, rfl, rfl, rfl, rfl, rfl, rfl, rfl, rfl, rfl⟩ := h
    exact W.iret hx hb hr (fun t ht hW => ⟨⟨_, (), rfl, rfl, by rw [ht]; exact hP9, va_K.moved hW.alike hK, hD9⟩, hS9.F ht⟩) hS9.2.2 dX7_model_92
  have BH_28 : ∀ (s1 : Int32) (Mformulas : Nat → Int32) (Mroot : Nat → Int32) (Mkind : Nat → Int32) (Mone : Nat → Int32) (Mother : Nat → Int32) (Msigns : Nat → Int32) (Mplace : Nat → Int32) (MleftOf : Nat → Int32) (MrightOf : Nat → Int32) (Mtype : Nat → Int32) (Msum : Nat → Int32) (Msign : Nat → Int32) (MsignAt : Nat → Int32) (Mproduct : Nat → Int32) (Mthrown : Int32) (Mlength : Int32) (Mmodels : Int32) (Mopen : Int32) (Mat : Int32), BX7_model_28 Mline v1 s1 Mformulas Mroot Mkind Mone Mother Msigns Mplace MleftOf MrightOf Mtype Msum Msign MsignAt Mproduct Mthrown Mlength Mmodels Mopen Mat = some (r, RMformulas, RMroot, RMkind, RMone, RMother, RMsigns, RMplace, RMleftOf, RMrightOf, RMtype, RMsum, RMsign, RMsignAt, RMproduct, RMthrown, RMlength, RMmodels, RMopen, RMat) → ∀ (H : Heap) (locs : List Loc) (ls : Array Slot), va_P D vwCl (wM k aM Mestimate Munit Msort Mwidth Mmany Mreading Mvariance Mcovariance Mline Mformulas Mroot Mkind Mone Mother Msigns Mplace MleftOf MrightOf Mtype Msum Msign MsignAt Mproduct Mvalue Mslope Mexponent Mdrawn Mslopes Mfrom Mfactor Mthrown Mlength Mmodels Mopen Mat Mrows Mx) H → va_D A (wM k aM Mestimate Munit Msort Mwidth Mmany Mreading Mvariance Mcovariance Mline Mformulas Mroot Mkind Mone Mother Msigns Mplace MleftOf MrightOf Mtype Msum Msign MsignAt Mproduct Mvalue Mslope Mexponent Mdrawn Mslopes Mfrom Mfactor Mthrown Mlength Mmodels Mopen Mat Mrows Mx) → va_S A s.heap H locs → lv_has ls 3 [(0, .ref (aM 0)), (1, .int v1)] → W p l e rmX7_model s m args below meth c H locs 0 0 Q (F0 m 28 ls [.int s1, .ref (aM 0)]) := by
    intro  s1 Mformulas Mroot Mkind Mone Mother Msigns Mplace MleftOf MrightOf Mtype Msum Msign MsignAt Mproduct Mthrown Mlength Mmodels Mopen Mat h H locs ls hP hD hS hl
    unfold BX7_model_28 at h
    obtain ⟨r4, thrown_4, hc4, h⟩ := bnd2_inv h
    have hFc := va_free (wc := (wM k aM Mestimate Munit Msort Mwidth Mmany Mreading Mvariance Mcovariance Mline Mformulas Mroot Mkind Mone Mother Msigns Mplace MleftOf MrightOf Mtype Msum Msign MsignAt Mproduct Mvalue Mslope Mexponent Mdrawn Mslopes Mfrom Mfactor Mthrown Mlength Mmodels Mopen Mat Mrows Mx)) hD hS hA [0, 1, 2, 3, 4, 5, 6, 7, 8, 9, 10, 11, 12, 13, 14, 15, 16, 17, 18, 19, 20, 21, 22, 23, 24, 25, 26, 27, 28, 29, 30] rfl
    refine xc_i (va_runV (As := [.int s1]) (rest := []) ⟨hx, hb, hml, hown, hts⟩ (met_X7_holds l D k  aM H.size Mestimate Munit Msort Mwidth Mmany Mreading Mvariance Mcovariance Mline Mformulas Mroot Mkind Mone Mother Msigns Mplace MleftOf MrightOf Mtype Msum Msign MsignAt Mproduct Mvalue Mslope Mexponent Mdrawn Mslopes Mfrom Mfactor Mthrown Mlength Mmodels Mopen Mat Mrows Mx s1 r4 thrown_4 hc4) (cwV 1 hts gX7_model_X7_holds rfl rfl rfl (by decide +kernel) ⟨Nat.le_of_ble_eq_true rfl, Nat.le_of_ble_eq_true rfl⟩) ⟨pw_blind, va_recv hK hP (ci := 7) (q0 := 0) rfl rfl, pw_start hP hK hD⟩ rfl rfl hl.1 rfl (lv_room (Nat.le_of_ble_eq_true rfl)) dX7_model_28 ⟨Nat.zero_le _, Nat.zero_le _⟩) hS hFc (fun H1 locs hP1 hD1 hk1 hS => ?_)
    obtain ⟨hP, hD⟩ := vj_all hFc hP1 hD1
    clear hP1 hD1 hk1 hFc
    generalize H1 = H at hP hS ⊢
    refine lv_if_ne (tgt := 36) hx hb dX7_model_31 (by decide) (fun c5 => ?_) (fun c5 => ?_)
    · replace h := sf_f c5 h
      refine lv_aload_n hx hb dX7_model_36 rfl (lv_at hl 0 rfl) ?_
      obtain ⟨r6, formulas_6, kind_6, one_6, other_6, signs_6, place_6, leftOf_6, rightOf_6, type__6, sum_6, sign_6, signAt_6, product_6, open__6, at__6, hc6, h⟩ := bnd16_inv h
      have hFc := va_free (wc := (wM k aM Mestimate Munit Msort Mwidth Mmany Mreading Mvariance Mcovariance Mline Mformulas Mroot Mkind Mone Mother Msigns Mplace MleftOf MrightOf Mtype Msum Msign MsignAt Mproduct Mvalue Mslope Mexponent Mdrawn Mslopes Mfrom Mfactor thrown_4 Mlength Mmodels Mopen Mat Mrows Mx)) hD hS hA [0, 1, 2, 3, 4, 5, 6, 7, 8, 9, 10, 11, 12, 13, 14, 15, 16, 17, 18, 19, 20, 21, 22, 23, 24, 25, 26, 27, 28, 29, 30] rfl
      refine xc_i (va_runV (As := []) (rest := []) ⟨hx, hb, hml, hown, hts⟩ (met_X7_reads l D k  aM H.size Mestimate Munit Msort Mwidth Mmany Mreading Mvariance Mcovariance Mline Mformulas Mroot Mkind Mone Mother Msigns Mplace MleftOf MrightOf Mtype Msum Msign MsignAt Mproduct Mvalue Mslope Mexponent Mdrawn Mslopes Mfrom Mfactor thrown_4 Mlength Mmodels Mopen Mat Mrows Mx r6 formulas_6 kind_6 one_6 other_6 signs_6 place_6 leftOf_6 rightOf_6 type__6 sum_6 sign_6 signAt_6 product_6 open__6 at__6 hc6) (cwV 0 hts gX7_model_X7_reads rfl rfl rfl (by decide +kernel) ⟨Nat.le_of_ble_eq_true rfl, Nat.le_of_ble_eq_true rfl⟩) ⟨pw_blind, va_recv hK hP (ci := 7) (q0 := 0) rfl rfl, pw_start hP hK hD⟩ rfl rfl hl.1 rfl (lv_room (Nat.le_of_ble_eq_true rfl)) dX7_model_37 ⟨Nat.zero_le _, Nat.zero_le _⟩) hS hFc (fun H1 locs hP1 hD1 hk1 hS => ?_)
      obtain ⟨hP, hD⟩ := vj_all hFc hP1 hD1
      clear hP1 hD1 hk1 hFc
      generalize H1 = H at hP hS ⊢
      refine lv_istore_n (lv' := [(2, .int r6), (0, .ref (aM 0)), (1, .int v1)]) hx hb dX7_model_40 rfl hl (by decide) rfl (fun ls hl => ?_)
      refine lv_aload_n hx hb dX7_model_41 rfl (lv_at hl 1 rfl) ?_
      refine lv_iconst (v := 0) hx hb dX7_model_42 (by decide) ?_
      refine va_put (D := D) (ci := 7) (v := .int 0) (ty := .int) (C := RX7) (T := TX7) (N := 37) hx hb hts iX7 tyX7 tyX7_ok nmX7 hown hK hP hD hS 0 rfl rfl 10 (by decide) f136 (fun _ h9 => h9) rfl (by decide +kernel) rfl rfl (Nat.le_of_ble_eq_true rfl) dX7_model_43 (fun H locs hP hD hS => ?_)
      replace hP : va_P D vwCl (wM k aM Mestimate Munit Msort Mwidth Mmany Mreading Mvariance Mcovariance Mline formulas_6 Mroot kind_6 one_6 other_6 signs_6 place_6 leftOf_6 rightOf_6 type__6 sum_6 sign_6 signAt_6 product_6 Mvalue Mslope Mexponent Mdrawn Mslopes Mfrom Mfactor thrown_4 0 Mmodels open__6 at__6 Mrows Mx) H := hP
      replace hD : va_D A (wM k aM Mestimate Munit Msort Mwidth Mmany Mreading Mvariance Mcovariance Mline formulas_6 Mroot kind_6 one_6 other_6 signs_6 place_6 leftOf_6 rightOf_6 type__6 sum_6 sign_6 signAt_6 product_6 Mvalue Mslope Mexponent Mdrawn Mslopes Mfrom Mfactor thrown_4 0 Mmodels open__6 at__6 Mrows Mx) := hD
      refine lv_iload_n hx hb dX7_model_46 rfl (lv_at hl 0 rfl) ?_
      refine lv_iconst (v := -1) hx hb dX7_model_47 (by decide) ?_
      refine lv_icmp_ne (tgt := 58) hx hb dX7_model_48 (by decide) (fun c7 => ?_) (fun c7 => ?_)
      · replace h := sf_f c7 h
        refine lv_aload_n hx hb dX7_model_58 rfl (lv_at hl 1 rfl) ?_
        refine lv_iload_n hx hb dX7_model_59 rfl (lv_at hl 2 rfl) ?_
        refine lv_iload_n hx hb dX7_model_60 rfl (lv_at hl 0 rfl) ?_
        obtain ⟨formulas_8, root_8, kind_8, one_8, other_8, signs_8, place_8, leftOf_8, rightOf_8, hc8, h⟩ := bnd9_inv h
        have hFc := va_free (wc := (wM k aM Mestimate Munit Msort Mwidth Mmany Mreading Mvariance Mcovariance Mline formulas_6 Mroot kind_6 one_6 other_6 signs_6 place_6 leftOf_6 rightOf_6 type__6 sum_6 sign_6 signAt_6 product_6 Mvalue Mslope Mexponent Mdrawn Mslopes Mfrom Mfactor thrown_4 0 Mmodels open__6 at__6 Mrows Mx)) hD hS hA [0, 1, 2, 3, 4, 5, 6, 7, 8, 9, 10, 11, 12, 13, 14, 15, 16, 17, 18, 19, 20, 21, 22, 23, 24, 25, 26, 27, 28, 29, 30] rfl
        refine xc_v (va_runV (As := [.int v1, .int r6]) (rest := []) ⟨hx, hb, hml, hown, hts⟩ (met_X7_keeps l D k  aM H.size Mestimate Munit Msort Mwidth Mmany Mreading Mvariance Mcovariance Mline formulas_6 Mroot kind_6 one_6 other_6 signs_6 place_6 leftOf_6 rightOf_6 type__6 sum_6 sign_6 signAt_6 product_6 Mvalue Mslope Mexponent Mdrawn Mslopes Mfrom Mfactor thrown_4 0 Mmodels open__6 at__6 Mrows Mx v1 r6 formulas_8 root_8 kind_8 one_8 other_8 signs_8 place_8 leftOf_8 rightOf_8 hc8) (cwV 2 hts gX7_model_X7_keeps rfl rfl rfl (by decide +kernel) ⟨Nat.le_of_ble_eq_true rfl, Nat.le_of_ble_eq_true rfl⟩) ⟨pw_blind, va_recv hK hP (ci := 7) (q0 := 0) rfl rfl, pw_start hP hK hD⟩ rfl rfl hl.1 rfl (lv_room (Nat.le_of_ble_eq_true rfl)) dX7_model_61 ⟨Nat.zero_le _, Nat.zero_le _⟩) hS hFc (fun H1 locs hP1 hD1 hk1 hS => ?_)
        obtain ⟨hP, hD⟩ := vj_all hFc hP1 hD1
        clear hP1 hD1 hk1 hFc
        generalize H1 = H at hP hS ⊢
        refine lv_aload_n hx hb dX7_model_64 rfl (lv_at hl 1 rfl) ?_
        refine lv_dup hx hb dX7_model_65 rfl ?_
        refine va_get (D := D) (ci := 7) (v := .int Mmodels) (C := RX7) (T := TX7) (N := 37) hx hb hts iX7 hown hK hP 0 rfl rfl 11 (by decide) f115 (fun _ h9 => h9) rfl dX7_model_66 ?_
        refine lv_iload_n hx hb dX7_model_69 rfl (lv_at hl 2 rfl) ?_
        refine lv_aload_n hx hb dX7_model_70 rfl (lv_at hl 1 rfl) ?_
        refine va_get (D := D) (ci := 7) (v := .int Mmodels) (C := RX7) (T := TX7) (N := 37) hx hb hts iX7 hown hK hP 0 rfl rfl 11 (by decide) f115 (fun _ h9 => h9) rfl dX7_model_71 ?_
        refine lv_icmp_ne (tgt := 81) hx hb dX7_model_74 (by decide) (fun c9 => ?_) (fun c9 => ?_)
        · replace h := sf_f c9 h
          refine lv_iconst (v := 0) hx hb dX7_model_81 (by decide) ?_
          exact BH_82  _ _ _ _ _ _ _ _ _ _ _ _ _ _ _ _ _ _ _ _ _ h _ _ _ hP hD hS (lv_sub hl [1, 2] rfl)
        · replace h := sf_t c9 h
          refine lv_iconst (v := 1) hx hb dX7_model_77 (by decide) ?_
          refine lv_goto (tgt := 82) hx hb dX7_model_78 (by decide) ?_
          exact BH_82  _ _ _ _ _ _ _ _ _ _ _ _ _ _ _ _ _ _ _ _ _ h _ _ _ hP hD hS (lv_sub hl [1, 2] rfl)
      · replace h := sf_t c7 h
        refine lv_iconst (v := -1) hx hb dX7_model_51 (by decide) ?_
        refine lv_aload_n hx hb dX7_model_52 rfl (lv_at hl 1 rfl) ?_
        refine va_get (D := D) (ci := 7) (v := .int at__6) (C := RX7) (T := TX7) (N := 37) hx hb hts iX7 hown hK hP 0 rfl rfl 27 (by decide) f139 (fun _ h9 => h9) rfl dX7_model_53 ?_
        refine lv_isub hx hb dX7_model_56 ?_
        have hP9 := hP
        have hD9 := hD
        have hS9 := hS
        subst hQ
        simp only [Option.some.injEq, Prod.mk.injEq] at h
        obtain ⟨rfl, rfl, rfl, rfl, rfl, rfl, rfl, rfl, rfl, rfl, rfl, rfl, rfl, rfl, rfl, rfl, rfl, rfl, rfl, rfl⟩ := h
        exact W.iret hx hb hr (fun t ht hW => ⟨⟨_, (), rfl, rfl, by rw [ht]; exact hP9, va_K.moved hW.alike hK, hD9⟩, hS9.F ht⟩) hS9.2.2 dX7_model_57
    · replace h := sf_t c5 h
      refine lv_iconst (v := 0) hx hb dX7_model_34 (by decide) ?_
      have hP9 := hP
      have hD9 := hD
      have hS9 := hS
      subst hQ
      simp only [Option.some.injEq, Prod.mk.injEq] at h
      obtain ⟨rfl, rfl, rfl, rfl, rfl, rfl, rfl, rfl, rfl, rfl, rfl, rfl, rfl, rfl, rfl, rfl, rfl, rfl, rfl, rfl⟩ := h
      exact W.iret hx hb hr (fun t ht hW => ⟨⟨_, (), rfl, rfl, by rw [ht]; exact hP9, va_K.moved hW.alike hK, hD9⟩, hS9.F ht⟩) hS9.2.2 dX7_model_35
  suffices main : ∀ (H : Heap) (locs : List Loc) (ls : Array Slot), va_P D vwCl (wM k aM Mestimate Munit Msort Mwidth Mmany Mreading Mvariance Mcovariance Mline Mformulas Mroot Mkind Mone Mother Msigns Mplace MleftOf MrightOf Mtype Msum Msign MsignAt Mproduct Mvalue Mslope Mexponent Mdrawn Mslopes Mfrom Mfactor Mthrown Mlength Mmodels Mopen Mat Mrows Mx) H → va_D A (wM k aM Mestimate Munit Msort Mwidth Mmany Mreading Mvariance Mcovariance Mline Mformulas Mroot Mkind Mone Mother Msigns Mplace MleftOf MrightOf Mtype Msum Msign MsignAt Mproduct Mvalue Mslope Mexponent Mdrawn Mslopes Mfrom Mfactor Mthrown Mlength Mmodels Mopen Mat Mrows Mx) → va_S A s.heap H locs → lv_has ls 3 [(0, .ref (aM 0)), (1, .int v1)] → W p l e rmX7_model s m args below meth c H locs 0 0 Q (F0 m 0 ls []) from main _ _ _ hP hD hS hl
  clear hP hD hS hl ls hAe
  intro H locs ls hP hD hS hl
  refine lv_aload_n hx hb dX7_model_0 rfl (lv_at hl 0 rfl) ?_
  refine lv_iload_n hx hb dX7_model_1 rfl (lv_at hl 1 rfl) ?_
  refine lv_iconst (v := 0) hx hb dX7_model_2 (by decide) ?_
  refine lv_aload_n hx hb dX7_model_3 rfl (lv_at hl 0 rfl) ?_
  refine va_get (D := D) (ci := 7) (v := .int Mmodels) (C := RX7) (T := TX7) (N := 37) hx hb hts iX7 hown hK hP 0 rfl rfl 11 (by decide) f115 (fun _ h9 => h9) rfl dX7_model_4 ?_
  obtain ⟨r1, hc1, h⟩ := bnd1_inv h
  have hPc := hP.sub (ws' := ([] : va_W)) [] rfl
  have hDc := hD.sub (ws' := ([] : va_W)) [] rfl rfl
  have hFc := va_free (wc := ([] : va_W)) hD hS hA [] rfl
  refine xc_i (va_runS (As := [.int v1, .int 0, .int Mmodels]) (rest := [.ref (aM 0)]) ⟨hx, hb, hml, hown, hts⟩ (met_X7_isIn l D k  H.size v1 0 Mmodels r1 hc1) (va_cwS 3 hts gX7_model_X7_isIn rfl rfl rfl (by decide +kernel) ⟨Nat.le_of_ble_eq_true rfl, Nat.le_of_ble_eq_true rfl⟩) ⟨pw_blind, pw_start hPc hK hDc⟩ rfl rfl hl.1 rfl (lv_room (Nat.le_of_ble_eq_true rfl)) dX7_model_7 ⟨Nat.zero_le _, Nat.zero_le _⟩) hS hFc (fun H1 locs hP1 hD1 hk1 hS => ?_)
  obtain ⟨hP, hD⟩ := vj (ws' := (wM k aM Mestimate Munit Msort Mwidth Mmany Mreading Mvariance Mcovariance Mline Mformulas Mroot Mkind Mone Mother Msigns Mplace MleftOf MrightOf Mtype Msum Msign MsignAt Mproduct Mvalue Mslope Mexponent Mdrawn Mslopes Mfrom Mfactor Mthrown Mlength Mmodels Mopen Mat Mrows Mx)) (w1 := ([] : va_W)) hP hD [] [0, 1, 2, 3, 4, 5, 6, 7, 8, 9, 10, 11, 12, 13, 14, 15, 16, 17, 18, 19, 20, 21, 22, 23, 24, 25, 26, 27, 28, 29, 30] [0, 1, 2, 3, 4, 5, 6, 7, 8, 9, 10, 11, 12, 13, 14, 15, 16, 17, 18, 19, 20, 21, 22, 23, 24, 25, 26, 27, 28, 29, 30] rfl rfl rfl rfl rfl hk1 hFc hP1 hD1
  clear hP1 hD1 hk1 hFc
  generalize H1 = H at hP hS ⊢
  refine lv_if_ne (tgt := 17) hx hb dX7_model_10 (by decide) (fun c2 => ?_) (fun c2 => ?_)
  · replace h := sf_f c2 h
    refine lv_iload_n hx hb dX7_model_17 rfl (lv_at hl 1 rfl) ?_
    refine lv_bipush (v := 8) hx hb dX7_model_18 (by decide) ?_
    refine lv_icmp_ne (tgt := 27) hx hb dX7_model_20 (by decide) (fun c3 => ?_) (fun c3 => ?_)
    · replace h := sf_f c3 h
      refine lv_iconst (v := 0) hx hb dX7_model_27 (by decide) ?_
      exact BH_28  _ _ _ _ _ _ _ _ _ _ _ _ _ _ _ _ _ _ _ _ h _ _ _ hP hD hS (lv_sub hl [0, 1] rfl)
    · replace h := sf_t c3 h
      refine lv_iconst (v := 2) hx hb dX7_model_23 (by decide) ?_
      refine lv_goto (tgt := 28) hx hb dX7_model_24 (by decide) ?_
      exact BH_28  _ _ _ _ _ _ _ _ _ _ _ _ _ _ _ _ _ _ _ _ h _ _ _ hP hD hS (lv_sub hl [0, 1] rfl)
  · replace h := sf_t c2 h
    refine lv_iconst (v := 1) hx hb dX7_model_13 (by decide) ?_
    refine lv_goto (tgt := 28) hx hb dX7_model_14 (by decide) ?_
    exact BH_28  _ _ _ _ _ _ _ _ _ _ _ _ _ _ _ _ _ _ _ _ h _ _ _ hP hD hS (lv_sub hl [0, 1] rfl)
def BX7_disagrees_14 (Munit : Nat → Int32) (Mformulas : Nat → Int32) (Mkind : Nat → Int32) (Mone : Nat → Int32) (Mother : Nat → Int32) (Msigns : Nat → Int32) (Mplace : Nat → Int32) (MleftOf : Nat → Int32) (MrightOf : Nat → Int32) (Mmodels : Int32) (v1 : Int32)  (s1 : Int32) (Mexponent : Nat → Int32) (Mthrown : Int32) : Option (Int32 × (Nat → Int32) × Int32) := bnd2 (fX7_holds s1 Mthrown) (fun r3 thrown_3 => (if r3 = 0 then some (0, Mexponent, thrown_3) else bnd2 (fX7_fault v1 Munit Mformulas Mkind Mone Mother Msigns Mplace MleftOf MrightOf Mexponent) (fun r5 exponent_5 => some (r5, exponent_5, thrown_3))))
def fX7_disagrees (v1 : Int32) (Munit : Nat → Int32) (Mformulas : Nat → Int32) (Mkind : Nat → Int32) (Mone : Nat → Int32) (Mother : Nat → Int32) (Msigns : Nat → Int32) (Mplace : Nat → Int32) (MleftOf : Nat → Int32) (MrightOf : Nat → Int32) (Mexponent : Nat → Int32) (Mthrown : Int32) (Mmodels : Int32) : Option (Int32 × (Nat → Int32) × Int32) := bnd1 (fX7_isModel v1 Mmodels) (fun r1 => (if r1 = 0 then BX7_disagrees_14 Munit Mformulas Mkind Mone Mother Msigns Mplace MleftOf MrightOf Mmodels v1 1 Mexponent Mthrown else BX7_disagrees_14 Munit Mformulas Mkind Mone Mother Msigns Mplace MleftOf MrightOf Mmodels v1 0 Mexponent Mthrown))
abbrev rmX7_disagrees : Room := { frames := 2, cells := 0, slots := 0, locals := 51 }
set_option maxHeartbeats 4000000 in
set_option maxRecDepth 100000 in
theorem met_X7_disagrees (l : Launch) (D : va_G) (k : Nat → ClassId)  (aM : Nat → Nat) (sz : Nat) (Mestimate : Nat → Int32) (Munit : Nat → Int32) (Msort : Nat → Int32) (Mwidth : Nat → Int32) (Mmany : Nat → Int32) (Mreading : Nat → Int32) (Mvariance : Nat → Int32) (Mcovariance : Nat → Int32) (Mline : Nat → Int32) (Mformulas : Nat → Int32) (Mroot : Nat → Int32) (Mkind : Nat → Int32) (Mone : Nat → Int32) (Mother : Nat → Int32) (Msigns : Nat → Int32) (Mplace : Nat → Int32) (MleftOf : Nat → Int32) (MrightOf : Nat → Int32) (Mtype : Nat → Int32) (Msum : Nat → Int32) (Msign : Nat → Int32) (MsignAt : Nat → Int32) (Mproduct : Nat → Int32) (Mvalue : Nat → Int64) (Mslope : Nat → Int64) (Mexponent : Nat → Int32) (Mdrawn : Nat → Int32) (Mslopes : Nat → Int64) (Mfrom : Nat → Int32) (Mfactor : Nat → Int32) (Mthrown : Int32) (Mlength : Int32) (Mmodels : Int32) (Mopen : Int32) (Mat : Int32) (Mrows : Int32) (Mx : Int32) (v1 : Int32) (r : Int32) (RMexponent : Nat → Int32) (RMthrown : Int32) (h : fX7_disagrees v1 Munit Mformulas Mkind Mone Mother Msigns Mplace MleftOf MrightOf Mexponent Mthrown Mmodels = some (r, RMexponent, RMthrown)) : Met l yX7_disagrees wsX7_disagrees rmX7_disagrees (va_Pc [.ref (aM 0), .int v1] (PreW D k (wM k aM Mestimate Munit Msort Mwidth Mmany Mreading Mvariance Mcovariance Mline Mformulas Mroot Mkind Mone Mother Msigns Mplace MleftOf MrightOf Mtype Msum Msign MsignAt Mproduct Mvalue Mslope Mexponent Mdrawn Mslopes Mfrom Mfactor Mthrown Mlength Mmodels Mopen Mat Mrows Mx) sz)) (va_Qi (fun r9 (_ : Unit) => r9 = r) (fun _ t => PostW D k (va_A (wM k aM Mestimate Munit Msort Mwidth Mmany Mreading Mvariance Mcovariance Mline Mformulas Mroot Mkind Mone Mother Msigns Mplace MleftOf MrightOf Mtype Msum Msign MsignAt Mproduct Mvalue Mslope Mexponent Mdrawn Mslopes Mfrom Mfactor Mthrown Mlength Mmodels Mopen Mat Mrows Mx) sz) (wM k aM Mestimate Munit Msort Mwidth Mmany Mreading Mvariance Mcovariance Mline Mformulas Mroot Mkind Mone Mother Msigns Mplace MleftOf MrightOf Mtype Msum Msign MsignAt Mproduct Mvalue Mslope RMexponent Mdrawn Mslopes Mfrom Mfactor RMthrown Mlength Mmodels Mopen Mat Mrows Mx) t) (va_A (wM k aM Mestimate Munit Msort Mwidth Mmany Mreading Mvariance Mcovariance Mline Mformulas Mroot Mkind Mone Mother Msigns Mplace MleftOf MrightOf Mtype Msum Msign MsignAt Mproduct Mvalue Mslope Mexponent Mdrawn Mslopes Mfrom Mfactor Mthrown Mlength Mmodels Mopen Mat Mrows Mx) sz)) 0 0 (va_A (wM k aM Mestimate Munit Msort Mwidth Mmany Mreading Mvariance Mcovariance Mline Mformulas Mroot Mkind Mone Mother Msigns Mplace MleftOf MrightOf Mtype Msum Msign MsignAt Mproduct Mvalue Mslope Mexponent Mdrawn Mslopes Mfrom Mfactor Mthrown Mlength Mmodels Mopen Mat Mrows Mx) sz) := by
  refine Met.ofW (cc := cX7_disagrees) (maxL := 2) (ret := (some .int)) (by decide) rfl ?_
  intro p e s m args below meth c s₁ B hml hv
  obtain ⟨hav, hsz, hP, hK, hD0⟩ := hv
  have hx := B.exec
  have hb := B.bytes
  have hr := B.returns
  have hts := atoms_spec (ws := wsX7_disagrees) B.pre
  have hown : s.vm.findClass RX7 = some m.cls := findClass_of_methodNamed B.named
  have hlocks := B.notSynchronized
  subst hsz
  have hD := hD0.self (sz := s.heap.size)
  clear hD0
  generalize hAe : va_A (wM k aM Mestimate Munit Msort Mwidth Mmany Mreading Mvariance Mcovariance Mline Mformulas Mroot Mkind Mone Mother Msigns Mplace MleftOf MrightOf Mtype Msum Msign MsignAt Mproduct Mvalue Mslope Mexponent Mdrawn Mslopes Mfrom Mfactor Mthrown Mlength Mmodels Mopen Mat Mrows Mx) s.heap.size = A at hD ⊢
  have hA : ∀ q : Nat, s.heap.size ≤ q → A q := fun q h => by rw [← hAe]; exact Or.inr h
  have hS : va_S A s.heap s.heap [] := va_S.rf
  have hl := lv_entry ([.ref (aM 0), .int v1]) (n := 2) (Nat.le_of_ble_eq_true rfl)
  rw [show entryFrame m args 2 = entryFrame m ([.ref (aM 0), .int v1] : List Value).toArray 2 from by rw [hav], lg_entry_eq]
  generalize (lg_sl ([.ref (aM 0), .int v1]) ++ List.replicate (2 - (lg_sl ([.ref (aM 0), .int v1])).length) Slot.unset).toArray = ls at hl ⊢
  replace hl : lv_has ls 2 [(0, .ref (aM 0)), (1, .int v1)] := hl
  refine w_q (fun Q hQ => ?_)
  unfold fX7_disagrees at h
  show W p l e rmX7_disagrees s m args below meth c s.heap [] 0 0 Q (F0 m 0 ls [])
  have BH_14 : ∀ (s1 : Int32) (Mexponent : Nat → Int32) (Mthrown : Int32), BX7_disagrees_14 Munit Mformulas Mkind Mone Mother Msigns Mplace MleftOf MrightOf Mmodels v1 s1 Mexponent Mthrown = some (r, RMexponent, RMthrown) → ∀ (H : Heap) (locs : List Loc) (ls : Array Slot), va_P D vwCl (wM k aM Mestimate Munit Msort Mwidth Mmany Mreading Mvariance Mcovariance Mline Mformulas Mroot Mkind Mone Mother Msigns Mplace MleftOf MrightOf Mtype Msum Msign MsignAt Mproduct Mvalue Mslope Mexponent Mdrawn Mslopes Mfrom Mfactor Mthrown Mlength Mmodels Mopen Mat Mrows Mx) H → va_D A (wM k aM Mestimate Munit Msort Mwidth Mmany Mreading Mvariance Mcovariance Mline Mformulas Mroot Mkind Mone Mother Msigns Mplace MleftOf MrightOf Mtype Msum Msign MsignAt Mproduct Mvalue Mslope Mexponent Mdrawn Mslopes Mfrom Mfactor Mthrown Mlength Mmodels Mopen Mat Mrows Mx) → va_S A s.heap H locs → lv_has ls 2 [(0, .ref (aM 0)), (1, .int v1)] → W p l e rmX7_disagrees s m args below meth c H locs 0 0 Q (F0 m 14 ls [.int s1, .ref (aM 0)]) := by
    intro  s1 Mexponent Mthrown h H locs ls hP hD hS hl
    unfold BX7_disagrees_14 at h
    obtain ⟨r3, thrown_3, hc3, h⟩ := bnd2_inv h
    have hFc := va_free (wc := (wM k aM Mestimate Munit Msort Mwidth Mmany Mreading Mvariance Mcovariance Mline Mformulas Mroot Mkind Mone Mother Msigns Mplace MleftOf MrightOf Mtype Msum Msign MsignAt Mproduct Mvalue Mslope Mexponent Mdrawn Mslopes Mfrom Mfactor Mthrown Mlength Mmodels Mopen Mat Mrows Mx)) hD hS hA [0, 1, 2, 3, 4, 5, 6, 7, 8, 9, 10, 11, 12, 13, 14, 15, 16, 17, 18, 19, 20, 21, 22, 23, 24, 25, 26, 27, 28, 29, 30] rfl
    refine xc_i (va_runV (As := [.int s1]) (rest := []) ⟨hx, hb, hml, hown, hts⟩ (met_X7_holds l D k  aM H.size Mestimate Munit Msort Mwidth Mmany Mreading Mvariance Mcovariance Mline Mformulas Mroot Mkind Mone Mother Msigns Mplace MleftOf MrightOf Mtype Msum Msign MsignAt Mproduct Mvalue Mslope Mexponent Mdrawn Mslopes Mfrom Mfactor Mthrown Mlength Mmodels Mopen Mat Mrows Mx s1 r3 thrown_3 hc3) (cwV 1 hts gX7_disagrees_X7_holds rfl rfl rfl (by decide +kernel) ⟨Nat.le_of_ble_eq_true rfl, Nat.le_of_ble_eq_true rfl⟩) ⟨pw_blind, va_recv hK hP (ci := 7) (q0 := 0) rfl rfl, pw_start hP hK hD⟩ rfl rfl hl.1 rfl (lv_room (Nat.le_of_ble_eq_true rfl)) dX7_disagrees_14 ⟨Nat.zero_le _, Nat.zero_le _⟩) hS hFc (fun H1 locs hP1 hD1 hk1 hS => ?_)
    obtain ⟨hP, hD⟩ := vj_all hFc hP1 hD1
    clear hP1 hD1 hk1 hFc
    generalize H1 = H at hP hS ⊢
    refine lv_if_eq (tgt := 28) hx hb dX7_disagrees_17 (by decide) (fun c4 => ?_) (fun c4 => ?_)
    · replace h := sf_t c4 h
      refine lv_iconst (v := 0) hx hb dX7_disagrees_28 (by decide) ?_
      have hP9 := hP
      have hD9 := hD
      have hS9 := hS
      subst hQ
      cases h
      exact W.iret hx hb hr (fun t ht hW => ⟨⟨_, (), rfl, rfl, by rw [ht]; exact hP9, va_K.moved hW.alike hK, hD9⟩, hS9.F ht⟩) hS9.2.2 dX7_disagrees_29
    · replace h := sf_f c4 h
      refine lv_aload_n hx hb dX7_disagrees_20 rfl (lv_at hl 0 rfl) ?_
      refine lv_iload_n hx hb dX7_disagrees_21 rfl (lv_at hl 1 rfl) ?_
      obtain ⟨r5, exponent_5, hc5, h⟩ := bnd2_inv h
      have hFc := va_free (wc := (wM k aM Mestimate Munit Msort Mwidth Mmany Mreading Mvariance Mcovariance Mline Mformulas Mroot Mkind Mone Mother Msigns Mplace MleftOf MrightOf Mtype Msum Msign MsignAt Mproduct Mvalue Mslope Mexponent Mdrawn Mslopes Mfrom Mfactor thrown_3 Mlength Mmodels Mopen Mat Mrows Mx)) hD hS hA [0, 1, 2, 3, 4, 5, 6, 7, 8, 9, 10, 11, 12, 13, 14, 15, 16, 17, 18, 19, 20, 21, 22, 23, 24, 25, 26, 27, 28, 29, 30] rfl
      refine xc_i (va_runV (As := [.int v1]) (rest := []) ⟨hx, hb, hml, hown, hts⟩ (met_X7_fault l D k  aM H.size Mestimate Munit Msort Mwidth Mmany Mreading Mvariance Mcovariance Mline Mformulas Mroot Mkind Mone Mother Msigns Mplace MleftOf MrightOf Mtype Msum Msign MsignAt Mproduct Mvalue Mslope Mexponent Mdrawn Mslopes Mfrom Mfactor thrown_3 Mlength Mmodels Mopen Mat Mrows Mx v1 r5 exponent_5 hc5) (cwV 1 hts gX7_disagrees_X7_fault rfl rfl rfl (by decide +kernel) ⟨Nat.le_of_ble_eq_true rfl, Nat.le_of_ble_eq_true rfl⟩) ⟨pw_blind, va_recv hK hP (ci := 7) (q0 := 0) rfl rfl, pw_start hP hK hD⟩ rfl rfl hl.1 rfl (lv_room (Nat.le_of_ble_eq_true rfl)) dX7_disagrees_22 ⟨Nat.zero_le _, Nat.zero_le _⟩) hS hFc (fun H1 locs hP1 hD1 hk1 hS => ?_)
      obtain ⟨hP, hD⟩ := vj_all hFc hP1 hD1
      clear hP1 hD1 hk1 hFc
      generalize H1 = H at hP hS ⊢
      refine lv_goto (tgt := 29) hx hb dX7_disagrees_25 (by decide) ?_
      have hP9 := hP
      have hD9 := hD
      have hS9 := hS
      subst hQ
      cases h
      exact W.iret hx hb hr (fun t ht hW => ⟨⟨_, (), rfl, rfl, by rw [ht]; exact hP9, va_K.moved hW.alike hK, hD9⟩, hS9.F ht⟩) hS9.2.2 dX7_disagrees_29
  suffices main : ∀ (H : Heap) (locs : List Loc) (ls : Array Slot), va_P D vwCl (wM k aM Mestimate Munit Msort Mwidth Mmany Mreading Mvariance Mcovariance Mline Mformulas Mroot Mkind Mone Mother Msigns Mplace MleftOf MrightOf Mtype Msum Msign MsignAt Mproduct Mvalue Mslope Mexponent Mdrawn Mslopes Mfrom Mfactor Mthrown Mlength Mmodels Mopen Mat Mrows Mx) H → va_D A (wM k aM Mestimate Munit Msort Mwidth Mmany Mreading Mvariance Mcovariance Mline Mformulas Mroot Mkind Mone Mother Msigns Mplace MleftOf MrightOf Mtype Msum Msign MsignAt Mproduct Mvalue Mslope Mexponent Mdrawn Mslopes Mfrom Mfactor Mthrown Mlength Mmodels Mopen Mat Mrows Mx) → va_S A s.heap H locs → lv_has ls 2 [(0, .ref (aM 0)), (1, .int v1)] → W p l e rmX7_disagrees s m args below meth c H locs 0 0 Q (F0 m 0 ls []) from main _ _ _ hP hD hS hl
  clear hP hD hS hl ls hAe
  intro H locs ls hP hD hS hl
  refine lv_aload_n hx hb dX7_disagrees_0 rfl (lv_at hl 0 rfl) ?_
  refine lv_aload_n hx hb dX7_disagrees_1 rfl (lv_at hl 0 rfl) ?_
  refine lv_iload_n hx hb dX7_disagrees_2 rfl (lv_at hl 1 rfl) ?_
  obtain ⟨r1, hc1, h⟩ := bnd1_inv h
  have hFc := va_free (wc := (wM k aM Mestimate Munit Msort Mwidth Mmany Mreading Mvariance Mcovariance Mline Mformulas Mroot Mkind Mone Mother Msigns Mplace MleftOf MrightOf Mtype Msum Msign MsignAt Mproduct Mvalue Mslope Mexponent Mdrawn Mslopes Mfrom Mfactor Mthrown Mlength Mmodels Mopen Mat Mrows Mx)) hD hS hA [0, 1, 2, 3, 4, 5, 6, 7, 8, 9, 10, 11, 12, 13, 14, 15, 16, 17, 18, 19, 20, 21, 22, 23, 24, 25, 26, 27, 28, 29, 30] rfl
  refine xc_i (va_runV (As := [.int v1]) (rest := [.ref (aM 0)]) ⟨hx, hb, hml, hown, hts⟩ (met_X7_isModel l D k  aM H.size Mestimate Munit Msort Mwidth Mmany Mreading Mvariance Mcovariance Mline Mformulas Mroot Mkind Mone Mother Msigns Mplace MleftOf MrightOf Mtype Msum Msign MsignAt Mproduct Mvalue Mslope Mexponent Mdrawn Mslopes Mfrom Mfactor Mthrown Mlength Mmodels Mopen Mat Mrows Mx v1 r1 hc1) (cwV 1 hts gX7_disagrees_X7_isModel rfl rfl rfl (by decide +kernel) ⟨Nat.le_of_ble_eq_true rfl, Nat.le_of_ble_eq_true rfl⟩) ⟨pw_blind, va_recv hK hP (ci := 7) (q0 := 0) rfl rfl, pw_start hP hK hD⟩ rfl rfl hl.1 rfl (lv_room (Nat.le_of_ble_eq_true rfl)) dX7_disagrees_3 ⟨Nat.zero_le _, Nat.zero_le _⟩) hS hFc (fun H1 locs hP1 hD1 hk1 hS => ?_)
  obtain ⟨hP, hD⟩ := vj_all hFc hP1 hD1
  clear hP1 hD1 hk1 hFc
  generalize H1 = H at hP hS ⊢
  refine lv_if_eq (tgt := 13) hx hb dX7_disagrees_6 (by decide) (fun c2 => ?_) (fun c2 => ?_)
  · replace h := sf_t c2 h
    refine lv_iconst (v := 1) hx hb dX7_disagrees_13 (by decide) ?_
    exact BH_14  _ _ _ h _ _ _ hP hD hS (lv_sub hl [0, 1] rfl)
  · replace h := sf_f c2 h
    refine lv_iconst (v := 0) hx hb dX7_disagrees_9 (by decide) ?_
    refine lv_goto (tgt := 14) hx hb dX7_disagrees_10 (by decide) ?_
    exact BH_14  _ _ _ h _ _ _ hP hD hS (lv_sub hl [0, 1] rfl)
def BX7_unitOf_33 (Munit : Nat → Int32) (Mformulas : Nat → Int32) (Mroot : Nat → Int32) (Mkind : Nat → Int32) (Mone : Nat → Int32) (Mother : Nat → Int32) (Mmodels : Int32) (v1 : Int32) (v2 : Int32)  (s1 : Int32) (s2 : Int32) (Mexponent : Nat → Int32) (Mthrown : Int32) : Option (Int32 × (Nat → Int32) × Int32) := bnd1 (fX7_laysExponents s1 s2 Munit Mformulas Mkind Mone Mother Mexponent) (fun exponent_6 => gi v1 9 (gi (Mroot v1.toNatClampNeg) 64 (some (exponent_6 (Mroot v1.toNatClampNeg).toNatClampNeg, exponent_6, Mthrown))))
def BX7_unitOf_14 (Munit : Nat → Int32) (Mformulas : Nat → Int32) (Mroot : Nat → Int32) (Mkind : Nat → Int32) (Mone : Nat → Int32) (Mother : Nat → Int32) (Mmodels : Int32) (v1 : Int32) (v2 : Int32)  (s1 : Int32) (Mexponent : Nat → Int32) (Mthrown : Int32) : Option (Int32 × (Nat → Int32) × Int32) := bnd2 (fX7_holds s1 Mthrown) (fun r3 thrown_3 => (if r3 = 0 then some (0, Mexponent, thrown_3) else (if v2 = 0 then BX7_unitOf_33 Munit Mformulas Mroot Mkind Mone Mother Mmodels v1 v2 v1 0 Mexponent thrown_3 else BX7_unitOf_33 Munit Mformulas Mroot Mkind Mone Mother Mmodels v1 v2 v1 1 Mexponent thrown_3)))
def fX7_unitOf (v1 : Int32) (v2 : Int32) (Munit : Nat → Int32) (Mformulas : Nat → Int32) (Mroot : Nat → Int32) (Mkind : Nat → Int32) (Mone : Nat → Int32) (Mother : Nat → Int32) (Mexponent : Nat → Int32) (Mthrown : Int32) (Mmodels : Int32) : Option (Int32 × (Nat → Int32) × Int32) := bnd1 (fX7_isModel v1 Mmodels) (fun r1 => (if r1 = 0 then BX7_unitOf_14 Munit Mformulas Mroot Mkind Mone Mother Mmodels v1 v2 1 Mexponent Mthrown else BX7_unitOf_14 Munit Mformulas Mroot Mkind Mone Mother Mmodels v1 v2 0 Mexponent Mthrown))
abbrev rmX7_unitOf : Room := { frames := 2, cells := 0, slots := 0, locals := 43 }
set_option maxHeartbeats 4000000 in
set_option maxRecDepth 100000 in
theorem met_X7_unitOf (l : Launch) (D : va_G) (k : Nat → ClassId)  (aM : Nat → Nat) (sz : Nat) (Mestimate : Nat → Int32) (Munit : Nat → Int32) (Msort : Nat → Int32) (Mwidth : Nat → Int32) (Mmany : Nat → Int32) (Mreading : Nat → Int32) (Mvariance : Nat → Int32) (Mcovariance : Nat → Int32) (Mline : Nat → Int32) (Mformulas : Nat → Int32) (Mroot : Nat → Int32) (Mkind : Nat → Int32) (Mone : Nat → Int32) (Mother : Nat → Int32) (Msigns : Nat → Int32) (Mplace : Nat → Int32) (MleftOf : Nat → Int32) (MrightOf : Nat → Int32) (Mtype : Nat → Int32) (Msum : Nat → Int32) (Msign : Nat → Int32) (MsignAt : Nat → Int32) (Mproduct : Nat → Int32) (Mvalue : Nat → Int64) (Mslope : Nat → Int64) (Mexponent : Nat → Int32) (Mdrawn : Nat → Int32) (Mslopes : Nat → Int64) (Mfrom : Nat → Int32) (Mfactor : Nat → Int32) (Mthrown : Int32) (Mlength : Int32) (Mmodels : Int32) (Mopen : Int32) (Mat : Int32) (Mrows : Int32) (Mx : Int32) (v1 : Int32) (v2 : Int32) (r : Int32) (RMexponent : Nat → Int32) (RMthrown : Int32) (h : fX7_unitOf v1 v2 Munit Mformulas Mroot Mkind Mone Mother Mexponent Mthrown Mmodels = some (r, RMexponent, RMthrown)) : Met l yX7_unitOf wsX7_unitOf rmX7_unitOf (va_Pc [.ref (aM 0), .int v1, .int v2] (PreW D k (wM k aM Mestimate Munit Msort Mwidth Mmany Mreading Mvariance Mcovariance Mline Mformulas Mroot Mkind Mone Mother Msigns Mplace MleftOf MrightOf Mtype Msum Msign MsignAt Mproduct Mvalue Mslope Mexponent Mdrawn Mslopes Mfrom Mfactor Mthrown Mlength Mmodels Mopen Mat Mrows Mx) sz)) (va_Qi (fun r9 (_ : Unit) => r9 = r) (fun _ t => PostW D k (va_A (wM k aM Mestimate Munit Msort Mwidth Mmany Mreading Mvariance Mcovariance Mline Mformulas Mroot Mkind Mone Mother Msigns Mplace MleftOf MrightOf Mtype Msum Msign MsignAt Mproduct Mvalue Mslope Mexponent Mdrawn Mslopes Mfrom Mfactor Mthrown Mlength Mmodels Mopen Mat Mrows Mx) sz) (wM k aM Mestimate Munit Msort Mwidth Mmany Mreading Mvariance Mcovariance Mline Mformulas Mroot Mkind Mone Mother Msigns Mplace MleftOf MrightOf Mtype Msum Msign MsignAt Mproduct Mvalue Mslope RMexponent Mdrawn Mslopes Mfrom Mfactor RMthrown Mlength Mmodels Mopen Mat Mrows Mx) t) (va_A (wM k aM Mestimate Munit Msort Mwidth Mmany Mreading Mvariance Mcovariance Mline Mformulas Mroot Mkind Mone Mother Msigns Mplace MleftOf MrightOf Mtype Msum Msign MsignAt Mproduct Mvalue Mslope Mexponent Mdrawn Mslopes Mfrom Mfactor Mthrown Mlength Mmodels Mopen Mat Mrows Mx) sz)) 0 0 (va_A (wM k aM Mestimate Munit Msort Mwidth Mmany Mreading Mvariance Mcovariance Mline Mformulas Mroot Mkind Mone Mother Msigns Mplace MleftOf MrightOf Mtype Msum Msign MsignAt Mproduct Mvalue Mslope Mexponent Mdrawn Mslopes Mfrom Mfactor Mthrown Mlength Mmodels Mopen Mat Mrows Mx) sz) := by
  refine Met.ofW (cc := cX7_unitOf) (maxL := 3) (ret := (some .int)) (by decide) rfl ?_
  intro p e s m args below meth c s₁ B hml hv
  obtain ⟨hav, hsz, hP, hK, hD0⟩ := hv
  have hx := B.exec
  have hb := B.bytes
  have hr := B.returns
  have hts := atoms_spec (ws := wsX7_unitOf) B.pre
  have hown : s.vm.findClass RX7 = some m.cls := findClass_of_methodNamed B.named
  have hlocks := B.notSynchronized
  subst hsz
  have hD := hD0.self (sz := s.heap.size)
  clear hD0
  generalize hAe : va_A (wM k aM Mestimate Munit Msort Mwidth Mmany Mreading Mvariance Mcovariance Mline Mformulas Mroot Mkind Mone Mother Msigns Mplace MleftOf MrightOf Mtype Msum Msign MsignAt Mproduct Mvalue Mslope Mexponent Mdrawn Mslopes Mfrom Mfactor Mthrown Mlength Mmodels Mopen Mat Mrows Mx) s.heap.size = A at hD ⊢
  have hA : ∀ q : Nat, s.heap.size ≤ q → A q := fun q h => by rw [← hAe]; exact Or.inr h
  have hS : va_S A s.heap s.heap [] := va_S.rf
  have hl := lv_entry ([.ref (aM 0), .int v1, .int v2]) (n := 3) (Nat.le_of_ble_eq_true rfl)
  rw [show entryFrame m args 3 = entryFrame m ([.ref (aM 0), .int v1, .int v2] : List Value).toArray 3 from by rw [hav], lg_entry_eq]
  generalize (lg_sl ([.ref (aM 0), .int v1, .int v2]) ++ List.replicate (3 - (lg_sl ([.ref (aM 0), .int v1, .int v2])).length) Slot.unset).toArray = ls at hl ⊢
  replace hl : lv_has ls 3 [(0, .ref (aM 0)), (1, .int v1), (2, .int v2)] := hl
  have f40 := hts (.fieldLink RX7 40 "UncertainBookModel" "root" "[I") (by decide +kernel)
  have f86 := hts (.fieldLink RX7 86 "UncertainBookModel" "exponent" "[I") (by decide +kernel)
  have iX7 : ∀ w ∈ u_ws RX7 TX7 37, w ∈ wsX7_unitOf := by decide +kernel
  refine w_q (fun Q hQ => ?_)
  unfold fX7_unitOf at h
  show W p l e rmX7_unitOf s m args below meth c s.heap [] 0 0 Q (F0 m 0 ls [])
  have BH_33 : ∀ (s1 : Int32) (s2 : Int32) (Mexponent : Nat → Int32) (Mthrown : Int32), BX7_unitOf_33 Munit Mformulas Mroot Mkind Mone Mother Mmodels v1 v2 s1 s2 Mexponent Mthrown = some (r, RMexponent, RMthrown) → ∀ (H : Heap) (locs : List Loc) (ls : Array Slot), va_P D vwCl (wM k aM Mestimate Munit Msort Mwidth Mmany Mreading Mvariance Mcovariance Mline Mformulas Mroot Mkind Mone Mother Msigns Mplace MleftOf MrightOf Mtype Msum Msign MsignAt Mproduct Mvalue Mslope Mexponent Mdrawn Mslopes Mfrom Mfactor Mthrown Mlength Mmodels Mopen Mat Mrows Mx) H → va_D A (wM k aM Mestimate Munit Msort Mwidth Mmany Mreading Mvariance Mcovariance Mline Mformulas Mroot Mkind Mone Mother Msigns Mplace MleftOf MrightOf Mtype Msum Msign MsignAt Mproduct Mvalue Mslope Mexponent Mdrawn Mslopes Mfrom Mfactor Mthrown Mlength Mmodels Mopen Mat Mrows Mx) → va_S A s.heap H locs → lv_has ls 3 [(0, .ref (aM 0)), (1, .int v1)] → W p l e rmX7_unitOf s m args below meth c H locs 0 0 Q (F0 m 33 ls [.int s2, .int s1, .ref (aM 0)]) := by
    intro  s1 s2 Mexponent Mthrown h H locs ls hP hD hS hl
    unfold BX7_unitOf_33 at h
    obtain ⟨exponent_6, hc6, h⟩ := bnd1_inv h
    have hFc := va_free (wc := (wM k aM Mestimate Munit Msort Mwidth Mmany Mreading Mvariance Mcovariance Mline Mformulas Mroot Mkind Mone Mother Msigns Mplace MleftOf MrightOf Mtype Msum Msign MsignAt Mproduct Mvalue Mslope Mexponent Mdrawn Mslopes Mfrom Mfactor Mthrown Mlength Mmodels Mopen Mat Mrows Mx)) hD hS hA [0, 1, 2, 3, 4, 5, 6, 7, 8, 9, 10, 11, 12, 13, 14, 15, 16, 17, 18, 19, 20, 21, 22, 23, 24, 25, 26, 27, 28, 29, 30] rfl
    refine xc_v (va_runV (As := [.int s1, .int s2]) (rest := []) ⟨hx, hb, hml, hown, hts⟩ (met_X7_laysExponents l D k  aM H.size Mestimate Munit Msort Mwidth Mmany Mreading Mvariance Mcovariance Mline Mformulas Mroot Mkind Mone Mother Msigns Mplace MleftOf MrightOf Mtype Msum Msign MsignAt Mproduct Mvalue Mslope Mexponent Mdrawn Mslopes Mfrom Mfactor Mthrown Mlength Mmodels Mopen Mat Mrows Mx s1 s2 exponent_6 hc6) (cwV 2 hts gX7_unitOf_X7_laysExponents rfl rfl rfl (by decide +kernel) ⟨Nat.le_of_ble_eq_true rfl, Nat.le_of_ble_eq_true rfl⟩) ⟨pw_blind, va_recv hK hP (ci := 7) (q0 := 0) rfl rfl, pw_start hP hK hD⟩ rfl rfl hl.1 rfl (lv_room (Nat.le_of_ble_eq_true rfl)) dX7_unitOf_33 ⟨Nat.zero_le _, Nat.zero_le _⟩) hS hFc (fun H1 locs hP1 hD1 hk1 hS => ?_)
    obtain ⟨hP, hD⟩ := vj_all hFc hP1 hD1
    clear hP1 hD1 hk1 hFc
    generalize H1 = H at hP hS ⊢
    refine lv_aload_n hx hb dX7_unitOf_36 rfl (lv_at hl 0 rfl) ?_
    refine va_get (D := D) (ci := 7) (v := .ref (aM 26)) (C := RX7) (T := TX7) (N := 37) hx hb hts iX7 hown hK hP 0 rfl rfl 30 (by decide) f86 (fun _ h9 => h9) rfl dX7_unitOf_37 ?_
    refine lv_aload_n hx hb dX7_unitOf_40 rfl (lv_at hl 0 rfl) ?_
    refine va_get (D := D) (ci := 7) (v := .ref (aM 11)) (C := RX7) (T := TX7) (N := 37) hx hb hts iX7 hown hK hP 0 rfl rfl 13 (by decide) f40 (fun _ h9 => h9) rfl dX7_unitOf_41 ?_
    refine lv_iload_n hx hb dX7_unitOf_44 rfl (lv_at hl 1 rfl) ?_
    obtain ⟨hi7, h⟩ := gi_inv h
    refine va_iald hx hb hK hP 11 0 rfl rfl hi7 dX7_unitOf_45 ?_
    obtain ⟨hi8, h⟩ := gi_inv h
    refine va_iald hx hb hK hP 26 0 rfl rfl hi8 dX7_unitOf_46 ?_
    have hP9 := hP
    have hD9 := hD
    have hS9 := hS
    subst hQ
    cases h
    exact W.iret hx hb hr (fun t ht hW => ⟨⟨_, (), rfl, rfl, by rw [ht]; exact hP9, va_K.moved hW.alike hK, hD9⟩, hS9.F ht⟩) hS9.2.2 dX7_unitOf_47
  have BH_14 : ∀ (s1 : Int32) (Mexponent : Nat → Int32) (Mthrown : Int32), BX7_unitOf_14 Munit Mformulas Mroot Mkind Mone Mother Mmodels v1 v2 s1 Mexponent Mthrown = some (r, RMexponent, RMthrown) → ∀ (H : Heap) (locs : List Loc) (ls : Array Slot), va_P D vwCl (wM k aM Mestimate Munit Msort Mwidth Mmany Mreading Mvariance Mcovariance Mline Mformulas Mroot Mkind Mone Mother Msigns Mplace MleftOf MrightOf Mtype Msum Msign MsignAt Mproduct Mvalue Mslope Mexponent Mdrawn Mslopes Mfrom Mfactor Mthrown Mlength Mmodels Mopen Mat Mrows Mx) H → va_D A (wM k aM Mestimate Munit Msort Mwidth Mmany Mreading Mvariance Mcovariance Mline Mformulas Mroot Mkind Mone Mother Msigns Mplace MleftOf MrightOf Mtype Msum Msign MsignAt Mproduct Mvalue Mslope Mexponent Mdrawn Mslopes Mfrom Mfactor Mthrown Mlength Mmodels Mopen Mat Mrows Mx) → va_S A s.heap H locs → lv_has ls 3 [(0, .ref (aM 0)), (1, .int v1), (2, .int v2)] → W p l e rmX7_unitOf s m args below meth c H locs 0 0 Q (F0 m 14 ls [.int s1, .ref (aM 0)]) := by
    intro  s1 Mexponent Mthrown h H locs ls hP hD hS hl
    unfold BX7_unitOf_14 at h
    obtain ⟨r3, thrown_3, hc3, h⟩ := bnd2_inv h
    have hFc := va_free (wc := (wM k aM Mestimate Munit Msort Mwidth Mmany Mreading Mvariance Mcovariance Mline Mformulas Mroot Mkind Mone Mother Msigns Mplace MleftOf MrightOf Mtype Msum Msign MsignAt Mproduct Mvalue Mslope Mexponent Mdrawn Mslopes Mfrom Mfactor Mthrown Mlength Mmodels Mopen Mat Mrows Mx)) hD hS hA [0, 1, 2, 3, 4, 5, 6, 7, 8, 9, 10, 11, 12, 13, 14, 15, 16, 17, 18, 19, 20, 21, 22, 23, 24, 25, 26, 27, 28, 29, 30] rfl
    refine xc_i (va_runV (As := [.int s1]) (rest := []) ⟨hx, hb, hml, hown, hts⟩ (met_X7_holds l D k  aM H.size Mestimate Munit Msort Mwidth Mmany Mreading Mvariance Mcovariance Mline Mformulas Mroot Mkind Mone Mother Msigns Mplace MleftOf MrightOf Mtype Msum Msign MsignAt Mproduct Mvalue Mslope Mexponent Mdrawn Mslopes Mfrom Mfactor Mthrown Mlength Mmodels Mopen Mat Mrows Mx s1 r3 thrown_3 hc3) (cwV 1 hts gX7_unitOf_X7_holds rfl rfl rfl (by decide +kernel) ⟨Nat.le_of_ble_eq_true rfl, Nat.le_of_ble_eq_true rfl⟩) ⟨pw_blind, va_recv hK hP (ci := 7) (q0 := 0) rfl rfl, pw_start hP hK hD⟩ rfl rfl hl.1 rfl (lv_room (Nat.le_of_ble_eq_true rfl)) dX7_unitOf_14 ⟨Nat.zero_le _, Nat.zero_le _⟩) hS hFc (fun H1 locs hP1 hD1 hk1 hS => ?_)
    obtain ⟨hP, hD⟩ := vj_all hFc hP1 hD1
    clear hP1 hD1 hk1 hFc
    generalize H1 = H at hP hS ⊢
    refine lv_if_ne (tgt := 22) hx hb dX7_unitOf_17 (by decide) (fun c4 => ?_) (fun c4 => ?_)
    · replace h := sf_f c4 h
      refine lv_aload_n hx hb dX7_unitOf_22 rfl (lv_at hl 0 rfl) ?_
      refine lv_iload_n hx hb dX7_unitOf_23 rfl (lv_at hl 1 rfl) ?_
      refine lv_iload_n hx hb dX7_unitOf_24 rfl (lv_at hl 2 rfl) ?_
      refine lv_if_eq (tgt := 32) hx hb dX7_unitOf_25 (by decide) (fun c5 => ?_) (fun c5 => ?_)
      · replace h := sf_t c5 h
        refine lv_iconst (v := 0) hx hb dX7_unitOf_32 (by decide) ?_
        exact BH_33  _ _ _ _ h _ _ _ hP hD hS (lv_sub hl [0, 1] rfl)
      · replace h := sf_f c5 h
        refine lv_iconst (v := 1) hx hb dX7_unitOf_28 (by decide) ?_
        refine lv_goto (tgt := 33) hx hb dX7_unitOf_29 (by decide) ?_
        exact BH_33  _ _ _ _ h _ _ _ hP hD hS (lv_sub hl [0, 1] rfl)
    · replace h := sf_t c4 h
      refine lv_iconst (v := 0) hx hb dX7_unitOf_20 (by decide) ?_
      have hP9 := hP
      have hD9 := hD
      have hS9 := hS
      subst hQ
      cases h
      exact W.iret hx hb hr (fun t ht hW => ⟨⟨_, (), rfl, rfl, by rw [ht]; exact hP9, va_K.moved hW.alike hK, hD9⟩, hS9.F ht⟩) hS9.2.2 dX7_unitOf_21
  suffices main : ∀ (H : Heap) (locs : List Loc) (ls : Array Slot), va_P D vwCl (wM k aM Mestimate Munit Msort Mwidth Mmany Mreading Mvariance Mcovariance Mline Mformulas Mroot Mkind Mone Mother Msigns Mplace MleftOf MrightOf Mtype Msum Msign MsignAt Mproduct Mvalue Mslope Mexponent Mdrawn Mslopes Mfrom Mfactor Mthrown Mlength Mmodels Mopen Mat Mrows Mx) H → va_D A (wM k aM Mestimate Munit Msort Mwidth Mmany Mreading Mvariance Mcovariance Mline Mformulas Mroot Mkind Mone Mother Msigns Mplace MleftOf MrightOf Mtype Msum Msign MsignAt Mproduct Mvalue Mslope Mexponent Mdrawn Mslopes Mfrom Mfactor Mthrown Mlength Mmodels Mopen Mat Mrows Mx) → va_S A s.heap H locs → lv_has ls 3 [(0, .ref (aM 0)), (1, .int v1), (2, .int v2)] → W p l e rmX7_unitOf s m args below meth c H locs 0 0 Q (F0 m 0 ls []) from main _ _ _ hP hD hS hl
  clear hP hD hS hl ls hAe
  intro H locs ls hP hD hS hl
  refine lv_aload_n hx hb dX7_unitOf_0 rfl (lv_at hl 0 rfl) ?_
  refine lv_aload_n hx hb dX7_unitOf_1 rfl (lv_at hl 0 rfl) ?_
  refine lv_iload_n hx hb dX7_unitOf_2 rfl (lv_at hl 1 rfl) ?_
  obtain ⟨r1, hc1, h⟩ := bnd1_inv h
  have hFc := va_free (wc := (wM k aM Mestimate Munit Msort Mwidth Mmany Mreading Mvariance Mcovariance Mline Mformulas Mroot Mkind Mone Mother Msigns Mplace MleftOf MrightOf Mtype Msum Msign MsignAt Mproduct Mvalue Mslope Mexponent Mdrawn Mslopes Mfrom Mfactor Mthrown Mlength Mmodels Mopen Mat Mrows Mx)) hD hS hA [0, 1, 2, 3, 4, 5, 6, 7, 8, 9, 10, 11, 12, 13, 14, 15, 16, 17, 18, 19, 20, 21, 22, 23, 24, 25, 26, 27, 28, 29, 30] rfl
  refine xc_i (va_runV (As := [.int v1]) (rest := [.ref (aM 0)]) ⟨hx, hb, hml, hown, hts⟩ (met_X7_isModel l D k  aM H.size Mestimate Munit Msort Mwidth Mmany Mreading Mvariance Mcovariance Mline Mformulas Mroot Mkind Mone Mother Msigns Mplace MleftOf MrightOf Mtype Msum Msign MsignAt Mproduct Mvalue Mslope Mexponent Mdrawn Mslopes Mfrom Mfactor Mthrown Mlength Mmodels Mopen Mat Mrows Mx v1 r1 hc1) (cwV 1 hts gX7_unitOf_X7_isModel rfl rfl rfl (by decide +kernel) ⟨Nat.le_of_ble_eq_true rfl, Nat.le_of_ble_eq_true rfl⟩) ⟨pw_blind, va_recv hK hP (ci := 7) (q0 := 0) rfl rfl, pw_start hP hK hD⟩ rfl rfl hl.1 rfl (lv_room (Nat.le_of_ble_eq_true rfl)) dX7_unitOf_3 ⟨Nat.zero_le _, Nat.zero_le _⟩) hS hFc (fun H1 locs hP1 hD1 hk1 hS => ?_)
  obtain ⟨hP, hD⟩ := vj_all hFc hP1 hD1
  clear hP1 hD1 hk1 hFc
  generalize H1 = H at hP hS ⊢
  refine lv_if_eq (tgt := 13) hx hb dX7_unitOf_6 (by decide) (fun c2 => ?_) (fun c2 => ?_)
  · replace h := sf_t c2 h
    refine lv_iconst (v := 1) hx hb dX7_unitOf_13 (by decide) ?_
    exact BH_14  _ _ _ h _ _ _ hP hD hS (lv_sub hl [0, 1, 2] rfl)
  · replace h := sf_f c2 h
    refine lv_iconst (v := 0) hx hb dX7_unitOf_9 (by decide) ?_
    refine lv_goto (tgt := 14) hx hb dX7_unitOf_10 (by decide) ?_
    exact BH_14  _ _ _ h _ _ _ hP hD hS (lv_sub hl [0, 1, 2] rfl)
def LX7_power__5 (v0 : Int64) (v2 : Int32) (E21 : Int64 → Option (Int64)) : Nat → Int64 → Int32 → Option (Int64)
  | 0, _, _ => none
  | fuel + 1, v3, v5 => (if v2 ≤ v5 then E21 v3 else LX7_power__5 v0 v2 E21 fuel (v3 * v0) (v5 + 1))
def fX7_power_ (v0 : Int64) (v2 : Int32) : Option (Int64) := LX7_power__5 v0 v2 (fun (v3 : Int64) => some (v3)) 1000 1 0
abbrev rmX7_power_ : Room := { frames := 0, cells := 0, slots := 0, locals := 0 }
set_option maxHeartbeats 4000000 in
set_option maxRecDepth 100000 in
theorem met_X7_power_ (l : Launch) (D : va_G) (k : Nat → ClassId)   (sz : Nat)  (v0 : Int64) (v2 : Int32) (r : Int64) (h : fX7_power_ v0 v2 = some r) : Met l yX7_power_ wsX7_power_ rmX7_power_ (va_Pc [.long v0, .int v2] (PreW D k ([] : va_W) sz)) (va_Ql (fun r9 (_ : Unit) => r9 = r) (fun _ t => PostW D k (va_A ([] : va_W) sz) ([] : va_W) t) (va_A ([] : va_W) sz)) 0 0 (va_A ([] : va_W) sz) := by
  refine Met.ofW (cc := cX7_power_) (maxL := 6) (ret := (some .long)) (by decide) rfl ?_
  intro p e s m args below meth c s₁ B hml hv
  obtain ⟨hav, hsz, hP, hK, hD0⟩ := hv
  have hx := B.exec
  have hb := B.bytes
  have hr := B.returns
  have hts := atoms_spec (ws := wsX7_power_) B.pre
  have hown : s.vm.findClass RX7 = some m.cls := findClass_of_methodNamed B.named
  have hlocks := B.notSynchronized
  subst hsz
  have hD := hD0.self (sz := s.heap.size)
  clear hD0
  generalize hAe : va_A ([] : va_W) s.heap.size = A at hD ⊢
  have hA : ∀ q : Nat, s.heap.size ≤ q → A q := fun q h => by rw [← hAe]; exact Or.inr h
  have hS : va_S A s.heap s.heap [] := va_S.rf
  have hl := lv_entry ([.long v0, .int v2]) (n := 6) (Nat.le_of_ble_eq_true rfl)
  rw [show entryFrame m args 6 = entryFrame m ([.long v0, .int v2] : List Value).toArray 6 from by rw [hav], lg_entry_eq]
  generalize (lg_sl ([.long v0, .int v2]) ++ List.replicate (6 - (lg_sl ([.long v0, .int v2])).length) Slot.unset).toArray = ls at hl ⊢
  replace hl : lv_has ls 6 [(0, .long v0), (2, .int v2)] := hl
  refine w_q (fun Q hQ => ?_)
  unfold fX7_power_ at h
  show W p l e rmX7_power_ s m args below meth c s.heap [] 0 0 Q (F0 m 0 ls [])
  have LH_5 : ∀ (E21 : Int64 → Option (Int64)) (hE21 : ∀ (v3 : Int64), E21 v3 = some r → ∀ (H : Heap) (locs : List Loc) (ls : Array Slot), va_P D vwCl ([] : va_W) H → va_D A ([] : va_W) → va_S A s.heap H locs → lv_has ls 6 [(3, .long v3)] → W p l e rmX7_power_ s m args below meth c H locs 0 0 Q (F0 m 21 ls [])) (n : Nat) (v3 : Int64) (v5 : Int32), LX7_power__5 v0 v2 E21 n v3 v5 = some r → ∀ (H : Heap) (locs : List Loc) (ls : Array Slot), va_P D vwCl ([] : va_W) H → va_D A ([] : va_W) → va_S A s.heap H locs → lv_has ls 6 [(0, .long v0), (2, .int v2), (3, .long v3), (5, .int v5)] → W p l e rmX7_power_ s m args below meth c H locs 0 0 Q (F0 m 5 ls []) := by
    intro E21 hE21 n
    induction n with
    | zero => intro v3 v5 h; simp [LX7_power__5] at h
    | succ n ih =>
    intro v3 v5 h H locs ls hP hD hS hl
    rw [LX7_power__5] at h
    refine lv_iload hx hb dX7_power__5 (lv_at hl 3 rfl) ?_
    refine lv_iload_n hx hb dX7_power__7 rfl (lv_at hl 1 rfl) ?_
    refine lv_icmp_ge (tgt := 21) hx hb dX7_power__8 (by decide) (fun c1 => ?_) (fun c1 => ?_)
    · replace h := sf_t c1 h
      exact hE21 _ h _ _ _ hP hD hS (lv_sub hl [2] rfl)
    · replace h := sf_f c1 h
      refine lv_lload_n hx hb dX7_power__11 rfl (lv_at hl 2 rfl) ?_
      refine lv_lload_n hx hb dX7_power__12 rfl (lv_at hl 0 rfl) ?_
      refine lv_lmul hx hb dX7_power__13 ?_
      refine lv_lstore_n (lv' := [(3, .long (v3 * v0)), (0, .long v0), (2, .int v2), (5, .int v5)]) hx hb dX7_power__14 rfl hl (by decide) rfl (fun ls hl => ?_)
      refine lv_iinc (v := v5 + 1) (lv' := [(5, .int (v5 + 1)), (3, .long (v3 * v0)), (0, .long v0), (2, .int v2)]) hx hb dX7_power__15 hl (k := 3) rfl rfl (by decide) rfl (fun ls hl => ?_)
      refine lv_goto (tgt := 5) hx hb dX7_power__18 (by decide) ?_
      exact ih _ _ h _ _ _ hP hD hS (lv_sub hl [2, 3, 1, 0] rfl)
  suffices main : ∀ (H : Heap) (locs : List Loc) (ls : Array Slot), va_P D vwCl ([] : va_W) H → va_D A ([] : va_W) → va_S A s.heap H locs → lv_has ls 6 [(0, .long v0), (2, .int v2)] → W p l e rmX7_power_ s m args below meth c H locs 0 0 Q (F0 m 0 ls []) from main _ _ _ hP hD hS hl
  clear hP hD hS hl ls hAe
  intro H locs ls hP hD hS hl
  refine lv_lconst (v := 1) hx hb dX7_power__0 (by decide) ?_
  refine lv_lstore_n (lv' := [(3, .long 1), (0, .long v0), (2, .int v2)]) hx hb dX7_power__1 rfl hl (by decide) rfl (fun ls hl => ?_)
  refine lv_iconst (v := 0) hx hb dX7_power__2 (by decide) ?_
  refine lv_istore (lv' := [(5, .int 0), (3, .long 1), (0, .long v0), (2, .int v2)]) hx hb dX7_power__3 hl (by decide) rfl (fun ls hl => ?_)
  refine LH_5 _ (fun v3 h H locs ls hP hD hS hl => ?_) _ _ _ h _ _ _ hP hD hS (lv_sub hl [2, 3, 1, 0] rfl)
  · skip
    refine lv_lload_n hx hb dX7_power__21 rfl (lv_at hl 0 rfl) ?_
    have hP9 := hP
    have hD9 := hD
    have hS9 := hS
    subst hQ
    cases h
    exact W.lret hx hb hr (fun t ht hW => ⟨⟨_, (), rfl, rfl, by rw [ht]; exact hP9, va_K.moved hW.alike hK, hD9⟩, hS9.F ht⟩) hS9.2.2 dX7_power__22
def BX7_values_94 (Mestimate : Nat → Int32) (Mformulas : Nat → Int32) (Mroot : Nat → Int32) (Mkind : Nat → Int32) (Mone : Nat → Int32) (Mother : Nat → Int32) (Mdrawn : Nat → Int32) (v1 : Int32) (v2 : Int32) (K : Int32 → (Nat → Int64) → Option (Int64 × (Nat → Int64))) (E221 : (Nat → Int64) → Option (Int64 × (Nat → Int64))) (v3 : Int32) (s1 : Int32) (s2 : Int64) (Mvalue : Nat → Int64) : Option (Int64 × (Nat → Int64)) := gi s1 64 (K (v3 + 1) (vp_updL Mvalue (s1.toNatClampNeg) s2))
def BX7_values_40 (Mestimate : Nat → Int32) (Mformulas : Nat → Int32) (Mroot : Nat → Int32) (Mkind : Nat → Int32) (Mone : Nat → Int32) (Mother : Nat → Int32) (Mdrawn : Nat → Int32) (v1 : Int32) (v2 : Int32) (K : Int32 → (Nat → Int64) → Option (Int64 × (Nat → Int64))) (E221 : (Nat → Int64) → Option (Int64 × (Nat → Int64))) (v3 : Int32) (v4 : Int32) (v5 : Int32) (Mvalue : Nat → Int64) : Option (Int64 × (Nat → Int64)) := (if v5 = 0 then gi v4 576 (BX7_values_94 Mestimate Mformulas Mroot Mkind Mone Mother Mdrawn v1 v2 (K) E221 v3 v3 ((Mone v4.toNatClampNeg).toInt64) Mvalue) else (if v2 = 0 then gi v4 576 (gi (Mone v4.toNatClampNeg) 6 (BX7_values_94 Mestimate Mformulas Mroot Mkind Mone Mother Mdrawn v1 v2 (K) E221 v3 v3 ((Mestimate (Mone v4.toNatClampNeg).toNatClampNeg).toInt64) Mvalue)) else gi v4 576 (gi (Mone v4.toNatClampNeg) 6 (BX7_values_94 Mestimate Mformulas Mroot Mkind Mone Mother Mdrawn v1 v2 (K) E221 v3 v3 ((Mdrawn (Mone v4.toNatClampNeg).toNatClampNeg).toInt64) Mvalue))))
def BX7_values_141 (Mestimate : Nat → Int32) (Mformulas : Nat → Int32) (Mroot : Nat → Int32) (Mkind : Nat → Int32) (Mone : Nat → Int32) (Mother : Nat → Int32) (Mdrawn : Nat → Int32) (v1 : Int32) (v2 : Int32) (K : Int32 → (Nat → Int64) → Option (Int64 × (Nat → Int64))) (E221 : (Nat → Int64) → Option (Int64 × (Nat → Int64))) (v3 : Int32) (v4 : Int32) (v5 : Int32) (v6 : Int64) (s0 : Int64) (Mvalue : Nat → Int64) : Option (Int64 × (Nat → Int64)) := (if v5 = 2 then gi v3 64 (K (v3 + 1) (vp_updL Mvalue (v3.toNatClampNeg) (v6 + s0))) else (if v5 = 3 then gi v3 64 (K (v3 + 1) (vp_updL Mvalue (v3.toNatClampNeg) (v6 - s0))) else (if v5 = 4 then gi v3 64 (K (v3 + 1) (vp_updL Mvalue (v3.toNatClampNeg) (v6 * s0))) else (if v5 = 5 then gi v4 576 (bnd1 (fX7_power_ v6 (Mother v4.toNatClampNeg)) (fun r23 => gi v3 64 (K (v3 + 1) (vp_updL Mvalue (v3.toNatClampNeg) r23)))) else gi v3 64 (K (v3 + 1) (vp_updL Mvalue (v3.toNatClampNeg) (-v6)))))))
def BX7_values_125 (Mestimate : Nat → Int32) (Mformulas : Nat → Int32) (Mroot : Nat → Int32) (Mkind : Nat → Int32) (Mone : Nat → Int32) (Mother : Nat → Int32) (Mdrawn : Nat → Int32) (v1 : Int32) (v2 : Int32) (K : Int32 → (Nat → Int64) → Option (Int64 × (Nat → Int64))) (E221 : (Nat → Int64) → Option (Int64 × (Nat → Int64))) (v3 : Int32) (v4 : Int32) (v5 : Int32) (v6 : Int64) (Mvalue : Nat → Int64) : Option (Int64 × (Nat → Int64)) := BX7_values_141 Mestimate Mformulas Mroot Mkind Mone Mother Mdrawn v1 v2 (K) E221 v3 v4 v5 v6 0 Mvalue
def LX7_values_2 (Mestimate : Nat → Int32) (Mformulas : Nat → Int32) (Mroot : Nat → Int32) (Mkind : Nat → Int32) (Mone : Nat → Int32) (Mother : Nat → Int32) (Mdrawn : Nat → Int32) (v1 : Int32) (v2 : Int32) (E221 : (Nat → Int64) → Option (Int64 × (Nat → Int64))) : Nat → Int32 → (Nat → Int64) → Option (Int64 × (Nat → Int64))
  | 0, _, _ => none
  | fuel + 1, v3, Mvalue => gi v1 9 ((if (Mformulas v1.toNatClampNeg) ≤ v3 then E221 Mvalue else gi ((64 * v1) + v3) 576 ((if (Mkind ((64 * v1) + v3).toNatClampNeg) = 0 then BX7_values_40 Mestimate Mformulas Mroot Mkind Mone Mother Mdrawn v1 v2 (LX7_values_2 Mestimate Mformulas Mroot Mkind Mone Mother Mdrawn v1 v2 E221 fuel) E221 v3 ((64 * v1) + v3) (Mkind ((64 * v1) + v3).toNatClampNeg) Mvalue else (if (Mkind ((64 * v1) + v3).toNatClampNeg) = 1 then BX7_values_40 Mestimate Mformulas Mroot Mkind Mone Mother Mdrawn v1 v2 (LX7_values_2 Mestimate Mformulas Mroot Mkind Mone Mother Mdrawn v1 v2 E221 fuel) E221 v3 ((64 * v1) + v3) (Mkind ((64 * v1) + v3).toNatClampNeg) Mvalue else gi ((64 * v1) + v3) 576 (gi (Mone ((64 * v1) + v3).toNatClampNeg) 64 ((if (Mkind ((64 * v1) + v3).toNatClampNeg) = 5 then BX7_values_125 Mestimate Mformulas Mroot Mkind Mone Mother Mdrawn v1 v2 (LX7_values_2 Mestimate Mformulas Mroot Mkind Mone Mother Mdrawn v1 v2 E221 fuel) E221 v3 ((64 * v1) + v3) (Mkind ((64 * v1) + v3).toNatClampNeg) (Mvalue (Mone ((64 * v1) + v3).toNatClampNeg).toNatClampNeg) Mvalue else (if (Mkind ((64 * v1) + v3).toNatClampNeg) = 6 then BX7_values_125 Mestimate Mformulas Mroot Mkind Mone Mother Mdrawn v1 v2 (LX7_values_2 Mestimate Mformulas Mroot Mkind Mone Mother Mdrawn v1 v2 E221 fuel) E221 v3 ((64 * v1) + v3) (Mkind ((64 * v1) + v3).toNatClampNeg) (Mvalue (Mone ((64 * v1) + v3).toNatClampNeg).toNatClampNeg) Mvalue else gi ((64 * v1) + v3) 576 (gi (Mother ((64 * v1) + v3).toNatClampNeg) 64 (BX7_values_141 Mestimate Mformulas Mroot Mkind Mone Mother Mdrawn v1 v2 (LX7_values_2 Mestimate Mformulas Mroot Mkind Mone Mother Mdrawn v1 v2 E221 fuel) E221 v3 ((64 * v1) + v3) (Mkind ((64 * v1) + v3).toNatClampNeg) (Mvalue (Mone ((64 * v1) + v3).toNatClampNeg).toNatClampNeg) (Mvalue (Mother ((64 * v1) + v3).toNatClampNeg).toNatClampNeg) Mvalue)))))))))))
def fX7_values (v1 : Int32) (v2 : Int32) (Mestimate : Nat → Int32) (Mformulas : Nat → Int32) (Mroot : Nat → Int32) (Mkind : Nat → Int32) (Mone : Nat → Int32) (Mother : Nat → Int32) (Mvalue : Nat → Int64) (Mdrawn : Nat → Int32) : Option (Int64 × (Nat → Int64)) := LX7_values_2 Mestimate Mformulas Mroot Mkind Mone Mother Mdrawn v1 v2 (fun (Mvalue : Nat → Int64) => gi v1 9 (gi (Mroot v1.toNatClampNeg) 64 (some (Mvalue (Mroot v1.toNatClampNeg).toNatClampNeg, Mvalue)))) 1000 0 Mvalue
abbrev rmX7_values : Room := { frames := 1, cells := 0, slots := 0, locals := 25 }
set_option maxHeartbeats 4000000 in
set_option maxRecDepth 100000 in
theorem met_X7_values (l : Launch) (D : va_G) (k : Nat → ClassId)  (aM : Nat → Nat) (sz : Nat) (Mestimate : Nat → Int32) (Munit : Nat → Int32) (Msort : Nat → Int32) (Mwidth : Nat → Int32) (Mmany : Nat → Int32) (Mreading : Nat → Int32) (Mvariance : Nat → Int32) (Mcovariance : Nat → Int32) (Mline : Nat → Int32) (Mformulas : Nat → Int32) (Mroot : Nat → Int32) (Mkind : Nat → Int32) (Mone : Nat → Int32) (Mother : Nat → Int32) (Msigns : Nat → Int32) (Mplace : Nat → Int32) (MleftOf : Nat → Int32) (MrightOf : Nat → Int32) (Mtype : Nat → Int32) (Msum : Nat → Int32) (Msign : Nat → Int32) (MsignAt : Nat → Int32) (Mproduct : Nat → Int32) (Mvalue : Nat → Int64) (Mslope : Nat → Int64) (Mexponent : Nat → Int32) (Mdrawn : Nat → Int32) (Mslopes : Nat → Int64) (Mfrom : Nat → Int32) (Mfactor : Nat → Int32) (Mthrown : Int32) (Mlength : Int32) (Mmodels : Int32) (Mopen : Int32) (Mat : Int32) (Mrows : Int32) (Mx : Int32) (v1 : Int32) (v2 : Int32) (r : Int64) (RMvalue : Nat → Int64) (h : fX7_values v1 v2 Mestimate Mformulas Mroot Mkind Mone Mother Mvalue Mdrawn = some (r, RMvalue)) : Met l yX7_values wsX7_values rmX7_values (va_Pc [.ref (aM 0), .int v1, .int v2] (PreW D k (wM k aM Mestimate Munit Msort Mwidth Mmany Mreading Mvariance Mcovariance Mline Mformulas Mroot Mkind Mone Mother Msigns Mplace MleftOf MrightOf Mtype Msum Msign MsignAt Mproduct Mvalue Mslope Mexponent Mdrawn Mslopes Mfrom Mfactor Mthrown Mlength Mmodels Mopen Mat Mrows Mx) sz)) (va_Ql (fun r9 (_ : Unit) => r9 = r) (fun _ t => PostW D k (va_A (wM k aM Mestimate Munit Msort Mwidth Mmany Mreading Mvariance Mcovariance Mline Mformulas Mroot Mkind Mone Mother Msigns Mplace MleftOf MrightOf Mtype Msum Msign MsignAt Mproduct Mvalue Mslope Mexponent Mdrawn Mslopes Mfrom Mfactor Mthrown Mlength Mmodels Mopen Mat Mrows Mx) sz) (wM k aM Mestimate Munit Msort Mwidth Mmany Mreading Mvariance Mcovariance Mline Mformulas Mroot Mkind Mone Mother Msigns Mplace MleftOf MrightOf Mtype Msum Msign MsignAt Mproduct RMvalue Mslope Mexponent Mdrawn Mslopes Mfrom Mfactor Mthrown Mlength Mmodels Mopen Mat Mrows Mx) t) (va_A (wM k aM Mestimate Munit Msort Mwidth Mmany Mreading Mvariance Mcovariance Mline Mformulas Mroot Mkind Mone Mother Msigns Mplace MleftOf MrightOf Mtype Msum Msign MsignAt Mproduct Mvalue Mslope Mexponent Mdrawn Mslopes Mfrom Mfactor Mthrown Mlength Mmodels Mopen Mat Mrows Mx) sz)) 0 0 (va_A (wM k aM Mestimate Munit Msort Mwidth Mmany Mreading Mvariance Mcovariance Mline Mformulas Mroot Mkind Mone Mother Msigns Mplace MleftOf MrightOf Mtype Msum Msign MsignAt Mproduct Mvalue Mslope Mexponent Mdrawn Mslopes Mfrom Mfactor Mthrown Mlength Mmodels Mopen Mat Mrows Mx) sz) := by
  refine Met.ofW (cc := cX7_values) (maxL := 10) (ret := (some .long)) (by decide) rfl ?_
  intro p e s m args below meth c s₁ B hml hv
  obtain ⟨hav, hsz, hP, hK, hD0⟩ := hv
  have hx := B.exec
  have hb := B.bytes
  have hr := B.returns
  have hts := atoms_spec (ws := wsX7_values) B.pre
  have hown : s.vm.findClass RX7 = some m.cls := findClass_of_methodNamed B.named
  have hlocks := B.notSynchronized
  subst hsz
  have hD := hD0.self (sz := s.heap.size)
  clear hD0
  generalize hAe : va_A (wM k aM Mestimate Munit Msort Mwidth Mmany Mreading Mvariance Mcovariance Mline Mformulas Mroot Mkind Mone Mother Msigns Mplace MleftOf MrightOf Mtype Msum Msign MsignAt Mproduct Mvalue Mslope Mexponent Mdrawn Mslopes Mfrom Mfactor Mthrown Mlength Mmodels Mopen Mat Mrows Mx) s.heap.size = A at hD ⊢
  have hA : ∀ q : Nat, s.heap.size ≤ q → A q := fun q h => by rw [← hAe]; exact Or.inr h
  have hS : va_S A s.heap s.heap [] := va_S.rf
  have hl := lv_entry ([.ref (aM 0), .int v1, .int v2]) (n := 10) (Nat.le_of_ble_eq_true rfl)
  rw [show entryFrame m args 10 = entryFrame m ([.ref (aM 0), .int v1, .int v2] : List Value).toArray 10 from by rw [hav], lg_entry_eq]
  generalize (lg_sl ([.ref (aM 0), .int v1, .int v2]) ++ List.replicate (10 - (lg_sl ([.ref (aM 0), .int v1, .int v2])).length) Slot.unset).toArray = ls at hl ⊢
  replace hl : lv_has ls 10 [(0, .ref (aM 0)), (1, .int v1), (2, .int v2)] := hl
  have f7 := hts (.fieldLink RX7 7 "UncertainBookModel" "estimate" "[I") (by decide +kernel)
  have f37 := hts (.fieldLink RX7 37 "UncertainBookModel" "formulas" "[I") (by decide +kernel)
  have f40 := hts (.fieldLink RX7 40 "UncertainBookModel" "root" "[I") (by decide +kernel)
  have f43 := hts (.fieldLink RX7 43 "UncertainBookModel" "kind" "[I") (by decide +kernel)
  have f46 := hts (.fieldLink RX7 46 "UncertainBookModel" "one" "[I") (by decide +kernel)
  have f49 := hts (.fieldLink RX7 49 "UncertainBookModel" "other" "[I") (by decide +kernel)
  have f79 := hts (.fieldLink RX7 79 "UncertainBookModel" "value" "[J") (by decide +kernel)
  have f89 := hts (.fieldLink RX7 89 "UncertainBookModel" "drawn" "[I") (by decide +kernel)
  have iX7 : ∀ w ∈ u_ws RX7 TX7 37, w ∈ wsX7_values := by decide +kernel
  refine w_q (fun Q hQ => ?_)
  unfold fX7_values at h
  show W p l e rmX7_values s m args below meth c s.heap [] 0 0 Q (F0 m 0 ls [])
  have BH_94 : ∀ (K : Int32 → (Nat → Int64) → Option (Int64 × (Nat → Int64))) (hKK : ∀ (v3 : Int32) (Mvalue : Nat → Int64), K v3 Mvalue = some (r, RMvalue) → ∀ (H : Heap) (locs : List Loc) (ls : Array Slot), va_P D vwCl (wM k aM Mestimate Munit Msort Mwidth Mmany Mreading Mvariance Mcovariance Mline Mformulas Mroot Mkind Mone Mother Msigns Mplace MleftOf MrightOf Mtype Msum Msign MsignAt Mproduct Mvalue Mslope Mexponent Mdrawn Mslopes Mfrom Mfactor Mthrown Mlength Mmodels Mopen Mat Mrows Mx) H → va_D A (wM k aM Mestimate Munit Msort Mwidth Mmany Mreading Mvariance Mcovariance Mline Mformulas Mroot Mkind Mone Mother Msigns Mplace MleftOf MrightOf Mtype Msum Msign MsignAt Mproduct Mvalue Mslope Mexponent Mdrawn Mslopes Mfrom Mfactor Mthrown Mlength Mmodels Mopen Mat Mrows Mx) → va_S A s.heap H locs → lv_has ls 10 [(0, .ref (aM 0)), (1, .int v1), (2, .int v2), (3, .int v3)] → W p l e rmX7_values s m args below meth c H locs 0 0 Q (F0 m 2 ls [])) (E221 : (Nat → Int64) → Option (Int64 × (Nat → Int64))) (hE221 : ∀ (Mvalue : Nat → Int64), E221 Mvalue = some (r, RMvalue) → ∀ (H : Heap) (locs : List Loc) (ls : Array Slot), va_P D vwCl (wM k aM Mestimate Munit Msort Mwidth Mmany Mreading Mvariance Mcovariance Mline Mformulas Mroot Mkind Mone Mother Msigns Mplace MleftOf MrightOf Mtype Msum Msign MsignAt Mproduct Mvalue Mslope Mexponent Mdrawn Mslopes Mfrom Mfactor Mthrown Mlength Mmodels Mopen Mat Mrows Mx) H → va_D A (wM k aM Mestimate Munit Msort Mwidth Mmany Mreading Mvariance Mcovariance Mline Mformulas Mroot Mkind Mone Mother Msigns Mplace MleftOf MrightOf Mtype Msum Msign MsignAt Mproduct Mvalue Mslope Mexponent Mdrawn Mslopes Mfrom Mfactor Mthrown Mlength Mmodels Mopen Mat Mrows Mx) → va_S A s.heap H locs → lv_has ls 10 [(0, .ref (aM 0)), (1, .int v1)] → W p l e rmX7_values s m args below meth c H locs 0 0 Q (F0 m 221 ls [])) (v3 : Int32) (s1 : Int32) (s2 : Int64) (Mvalue : Nat → Int64), BX7_values_94 Mestimate Mformulas Mroot Mkind Mone Mother Mdrawn v1 v2 K E221 v3 s1 s2 Mvalue = some (r, RMvalue) → ∀ (H : Heap) (locs : List Loc) (ls : Array Slot), va_P D vwCl (wM k aM Mestimate Munit Msort Mwidth Mmany Mreading Mvariance Mcovariance Mline Mformulas Mroot Mkind Mone Mother Msigns Mplace MleftOf MrightOf Mtype Msum Msign MsignAt Mproduct Mvalue Mslope Mexponent Mdrawn Mslopes Mfrom Mfactor Mthrown Mlength Mmodels Mopen Mat Mrows Mx) H → va_D A (wM k aM Mestimate Munit Msort Mwidth Mmany Mreading Mvariance Mcovariance Mline Mformulas Mroot Mkind Mone Mother Msigns Mplace MleftOf MrightOf Mtype Msum Msign MsignAt Mproduct Mvalue Mslope Mexponent Mdrawn Mslopes Mfrom Mfactor Mthrown Mlength Mmodels Mopen Mat Mrows Mx) → va_S A s.heap H locs → lv_has ls 10 [(0, .ref (aM 0)), (1, .int v1), (2, .int v2), (3, .int v3)] → W p l e rmX7_values s m args below meth c H locs 0 0 Q (F0 m 94 ls [.long s2, .int s1, .ref (aM 24)]) := by
    intro K hKK E221 hE221 v3 s1 s2 Mvalue h H locs ls hP hD hS hl
    unfold BX7_values_94 at h
    obtain ⟨hi9, h⟩ := gi_inv h
    refine va_last hx hb hK hP hD hS 24 1 rfl rfl hi9 dX7_values_94 (fun H locs hP hD hS => ?_)
    replace hP : va_P D vwCl (wM k aM Mestimate Munit Msort Mwidth Mmany Mreading Mvariance Mcovariance Mline Mformulas Mroot Mkind Mone Mother Msigns Mplace MleftOf MrightOf Mtype Msum Msign MsignAt Mproduct (vp_updL Mvalue (s1.toNatClampNeg) s2) Mslope Mexponent Mdrawn Mslopes Mfrom Mfactor Mthrown Mlength Mmodels Mopen Mat Mrows Mx) H := hP
    replace hD : va_D A (wM k aM Mestimate Munit Msort Mwidth Mmany Mreading Mvariance Mcovariance Mline Mformulas Mroot Mkind Mone Mother Msigns Mplace MleftOf MrightOf Mtype Msum Msign MsignAt Mproduct (vp_updL Mvalue (s1.toNatClampNeg) s2) Mslope Mexponent Mdrawn Mslopes Mfrom Mfactor Mthrown Mlength Mmodels Mopen Mat Mrows Mx) := hD
    refine lv_goto (tgt := 215) hx hb dX7_values_95 (by decide) ?_
    refine lv_iinc (v := v3 + 1) (lv' := [(3, .int (v3 + 1)), (0, .ref (aM 0)), (1, .int v1), (2, .int v2)]) hx hb dX7_values_215 hl (k := 3) rfl rfl (by decide) rfl (fun ls hl => ?_)
    refine lv_goto (tgt := 2) hx hb dX7_values_218 (by decide) ?_
    exact hKK _ _ h _ _ _ hP hD hS (lv_sub hl [1, 2, 3, 0] rfl)
  have BH_40 : ∀ (K : Int32 → (Nat → Int64) → Option (Int64 × (Nat → Int64))) (hKK : ∀ (v3 : Int32) (Mvalue : Nat → Int64), K v3 Mvalue = some (r, RMvalue) → ∀ (H : Heap) (locs : List Loc) (ls : Array Slot), va_P D vwCl (wM k aM Mestimate Munit Msort Mwidth Mmany Mreading Mvariance Mcovariance Mline Mformulas Mroot Mkind Mone Mother Msigns Mplace MleftOf MrightOf Mtype Msum Msign MsignAt Mproduct Mvalue Mslope Mexponent Mdrawn Mslopes Mfrom Mfactor Mthrown Mlength Mmodels Mopen Mat Mrows Mx) H → va_D A (wM k aM Mestimate Munit Msort Mwidth Mmany Mreading Mvariance Mcovariance Mline Mformulas Mroot Mkind Mone Mother Msigns Mplace MleftOf MrightOf Mtype Msum Msign MsignAt Mproduct Mvalue Mslope Mexponent Mdrawn Mslopes Mfrom Mfactor Mthrown Mlength Mmodels Mopen Mat Mrows Mx) → va_S A s.heap H locs → lv_has ls 10 [(0, .ref (aM 0)), (1, .int v1), (2, .int v2), (3, .int v3)] → W p l e rmX7_values s m args below meth c H locs 0 0 Q (F0 m 2 ls [])) (E221 : (Nat → Int64) → Option (Int64 × (Nat → Int64))) (hE221 : ∀ (Mvalue : Nat → Int64), E221 Mvalue = some (r, RMvalue) → ∀ (H : Heap) (locs : List Loc) (ls : Array Slot), va_P D vwCl (wM k aM Mestimate Munit Msort Mwidth Mmany Mreading Mvariance Mcovariance Mline Mformulas Mroot Mkind Mone Mother Msigns Mplace MleftOf MrightOf Mtype Msum Msign MsignAt Mproduct Mvalue Mslope Mexponent Mdrawn Mslopes Mfrom Mfactor Mthrown Mlength Mmodels Mopen Mat Mrows Mx) H → va_D A (wM k aM Mestimate Munit Msort Mwidth Mmany Mreading Mvariance Mcovariance Mline Mformulas Mroot Mkind Mone Mother Msigns Mplace MleftOf MrightOf Mtype Msum Msign MsignAt Mproduct Mvalue Mslope Mexponent Mdrawn Mslopes Mfrom Mfactor Mthrown Mlength Mmodels Mopen Mat Mrows Mx) → va_S A s.heap H locs → lv_has ls 10 [(0, .ref (aM 0)), (1, .int v1)] → W p l e rmX7_values s m args below meth c H locs 0 0 Q (F0 m 221 ls [])) (v3 : Int32) (v4 : Int32) (v5 : Int32) (Mvalue : Nat → Int64), BX7_values_40 Mestimate Mformulas Mroot Mkind Mone Mother Mdrawn v1 v2 K E221 v3 v4 v5 Mvalue = some (r, RMvalue) → ∀ (H : Heap) (locs : List Loc) (ls : Array Slot), va_P D vwCl (wM k aM Mestimate Munit Msort Mwidth Mmany Mreading Mvariance Mcovariance Mline Mformulas Mroot Mkind Mone Mother Msigns Mplace MleftOf MrightOf Mtype Msum Msign MsignAt Mproduct Mvalue Mslope Mexponent Mdrawn Mslopes Mfrom Mfactor Mthrown Mlength Mmodels Mopen Mat Mrows Mx) H → va_D A (wM k aM Mestimate Munit Msort Mwidth Mmany Mreading Mvariance Mcovariance Mline Mformulas Mroot Mkind Mone Mother Msigns Mplace MleftOf MrightOf Mtype Msum Msign MsignAt Mproduct Mvalue Mslope Mexponent Mdrawn Mslopes Mfrom Mfactor Mthrown Mlength Mmodels Mopen Mat Mrows Mx) → va_S A s.heap H locs → lv_has ls 10 [(0, .ref (aM 0)), (1, .int v1), (2, .int v2), (3, .int v3), (4, .int v4), (5, .int v5)] → W p l e rmX7_values s m args below meth c H locs 0 0 Q (F0 m 40 ls []) := by
    intro K hKK E221 hE221 v3 v4 v5 Mvalue h H locs ls hP hD hS hl
    unfold BX7_values_40 at h
    refine lv_aload_n hx hb dX7_values_40 rfl (lv_at hl 0 rfl) ?_
    refine va_get (D := D) (ci := 7) (v := .ref (aM 24)) (C := RX7) (T := TX7) (N := 37) hx hb hts iX7 hown hK hP 0 rfl rfl 28 (by decide) f79 (fun _ h9 => h9) rfl dX7_values_41 ?_
    refine lv_iload_n hx hb dX7_values_44 rfl (lv_at hl 3 rfl) ?_
    refine lv_iload hx hb dX7_values_45 (lv_at hl 5 rfl) ?_
    refine lv_if_ne (tgt := 61) hx hb dX7_values_47 (by decide) (fun c5 => ?_) (fun c5 => ?_)
    · replace h := sf_f c5 h
      refine lv_iload_n hx hb dX7_values_61 rfl (lv_at hl 2 rfl) ?_
      refine lv_if_eq (tgt := 81) hx hb dX7_values_62 (by decide) (fun c6 => ?_) (fun c6 => ?_)
      · replace h := sf_t c6 h
        refine lv_aload_n hx hb dX7_values_81 rfl (lv_at hl 0 rfl) ?_
        refine va_get (D := D) (ci := 7) (v := .ref (aM 1)) (C := RX7) (T := TX7) (N := 37) hx hb hts iX7 hown hK hP 0 rfl rfl 1 (by decide) f7 (fun _ h9 => h9) rfl dX7_values_82 ?_
        refine lv_aload_n hx hb dX7_values_85 rfl (lv_at hl 0 rfl) ?_
        refine va_get (D := D) (ci := 7) (v := .ref (aM 13)) (C := RX7) (T := TX7) (N := 37) hx hb hts iX7 hown hK hP 0 rfl rfl 15 (by decide) f46 (fun _ h9 => h9) rfl dX7_values_86 ?_
        refine lv_iload hx hb dX7_values_89 (lv_at hl 4 rfl) ?_
        obtain ⟨hi7, h⟩ := gi_inv h
        refine va_iald hx hb hK hP 13 0 rfl rfl hi7 dX7_values_91 ?_
        obtain ⟨hi8, h⟩ := gi_inv h
        refine va_iald hx hb hK hP 1 0 rfl rfl hi8 dX7_values_92 ?_
        refine lv_i2l hx hb dX7_values_93 rfl ?_
        exact BH_94 _ hKK _ hE221 _ _ _ _ h _ _ _ hP hD hS (lv_sub hl [0, 1, 2, 3] rfl)
      · replace h := sf_f c6 h
        refine lv_aload_n hx hb dX7_values_65 rfl (lv_at hl 0 rfl) ?_
        refine va_get (D := D) (ci := 7) (v := .ref (aM 27)) (C := RX7) (T := TX7) (N := 37) hx hb hts iX7 hown hK hP 0 rfl rfl 31 (by decide) f89 (fun _ h9 => h9) rfl dX7_values_66 ?_
        refine lv_aload_n hx hb dX7_values_69 rfl (lv_at hl 0 rfl) ?_
        refine va_get (D := D) (ci := 7) (v := .ref (aM 13)) (C := RX7) (T := TX7) (N := 37) hx hb hts iX7 hown hK hP 0 rfl rfl 15 (by decide) f46 (fun _ h9 => h9) rfl dX7_values_70 ?_
        refine lv_iload hx hb dX7_values_73 (lv_at hl 4 rfl) ?_
        obtain ⟨hi10, h⟩ := gi_inv h
        refine va_iald hx hb hK hP 13 0 rfl rfl hi10 dX7_values_75 ?_
        obtain ⟨hi11, h⟩ := gi_inv h
        refine va_iald hx hb hK hP 27 0 rfl rfl hi11 dX7_values_76 ?_
        refine lv_i2l hx hb dX7_values_77 rfl ?_
        refine lv_goto (tgt := 94) hx hb dX7_values_78 (by decide) ?_
        exact BH_94 _ hKK _ hE221 _ _ _ _ h _ _ _ hP hD hS (lv_sub hl [0, 1, 2, 3] rfl)
    · replace h := sf_t c5 h
      refine lv_aload_n hx hb dX7_values_50 rfl (lv_at hl 0 rfl) ?_
      refine va_get (D := D) (ci := 7) (v := .ref (aM 13)) (C := RX7) (T := TX7) (N := 37) hx hb hts iX7 hown hK hP 0 rfl rfl 15 (by decide) f46 (fun _ h9 => h9) rfl dX7_values_51 ?_
      refine lv_iload hx hb dX7_values_54 (lv_at hl 4 rfl) ?_
      obtain ⟨hi12, h⟩ := gi_inv h
      refine va_iald hx hb hK hP 13 0 rfl rfl hi12 dX7_values_56 ?_
      refine lv_i2l hx hb dX7_values_57 rfl ?_
      refine lv_goto (tgt := 94) hx hb dX7_values_58 (by decide) ?_
      exact BH_94 _ hKK _ hE221 _ _ _ _ h _ _ _ hP hD hS (lv_sub hl [0, 1, 2, 3] rfl)
  have BH_141 : ∀ (K : Int32 → (Nat → Int64) → Option (Int64 × (Nat → Int64))) (hKK : ∀ (v3 : Int32) (Mvalue : Nat → Int64), K v3 Mvalue = some (r, RMvalue) → ∀ (H : Heap) (locs : List Loc) (ls : Array Slot), va_P D vwCl (wM k aM Mestimate Munit Msort Mwidth Mmany Mreading Mvariance Mcovariance Mline Mformulas Mroot Mkind Mone Mother Msigns Mplace MleftOf MrightOf Mtype Msum Msign MsignAt Mproduct Mvalue Mslope Mexponent Mdrawn Mslopes Mfrom Mfactor Mthrown Mlength Mmodels Mopen Mat Mrows Mx) H → va_D A (wM k aM Mestimate Munit Msort Mwidth Mmany Mreading Mvariance Mcovariance Mline Mformulas Mroot Mkind Mone Mother Msigns Mplace MleftOf MrightOf Mtype Msum Msign MsignAt Mproduct Mvalue Mslope Mexponent Mdrawn Mslopes Mfrom Mfactor Mthrown Mlength Mmodels Mopen Mat Mrows Mx) → va_S A s.heap H locs → lv_has ls 10 [(0, .ref (aM 0)), (1, .int v1), (2, .int v2), (3, .int v3)] → W p l e rmX7_values s m args below meth c H locs 0 0 Q (F0 m 2 ls [])) (E221 : (Nat → Int64) → Option (Int64 × (Nat → Int64))) (hE221 : ∀ (Mvalue : Nat → Int64), E221 Mvalue = some (r, RMvalue) → ∀ (H : Heap) (locs : List Loc) (ls : Array Slot), va_P D vwCl (wM k aM Mestimate Munit Msort Mwidth Mmany Mreading Mvariance Mcovariance Mline Mformulas Mroot Mkind Mone Mother Msigns Mplace MleftOf MrightOf Mtype Msum Msign MsignAt Mproduct Mvalue Mslope Mexponent Mdrawn Mslopes Mfrom Mfactor Mthrown Mlength Mmodels Mopen Mat Mrows Mx) H → va_D A (wM k aM Mestimate Munit Msort Mwidth Mmany Mreading Mvariance Mcovariance Mline Mformulas Mroot Mkind Mone Mother Msigns Mplace MleftOf MrightOf Mtype Msum Msign MsignAt Mproduct Mvalue Mslope Mexponent Mdrawn Mslopes Mfrom Mfactor Mthrown Mlength Mmodels Mopen Mat Mrows Mx) → va_S A s.heap H locs → lv_has ls 10 [(0, .ref (aM 0)), (1, .int v1)] → W p l e rmX7_values s m args below meth c H locs 0 0 Q (F0 m 221 ls [])) (v3 : Int32) (v4 : Int32) (v5 : Int32) (v6 : Int64) (s0 : Int64) (Mvalue : Nat → Int64), BX7_values_141 Mestimate Mformulas Mroot Mkind Mone Mother Mdrawn v1 v2 K E221 v3 v4 v5 v6 s0 Mvalue = some (r, RMvalue) → ∀ (H : Heap) (locs : List Loc) (ls : Array Slot), va_P D vwCl (wM k aM Mestimate Munit Msort Mwidth Mmany Mreading Mvariance Mcovariance Mline Mformulas Mroot Mkind Mone Mother Msigns Mplace MleftOf MrightOf Mtype Msum Msign MsignAt Mproduct Mvalue Mslope Mexponent Mdrawn Mslopes Mfrom Mfactor Mthrown Mlength Mmodels Mopen Mat Mrows Mx) H → va_D A (wM k aM Mestimate Munit Msort Mwidth Mmany Mreading Mvariance Mcovariance Mline Mformulas Mroot Mkind Mone Mother Msigns Mplace MleftOf MrightOf Mtype Msum Msign MsignAt Mproduct Mvalue Mslope Mexponent Mdrawn Mslopes Mfrom Mfactor Mthrown Mlength Mmodels Mopen Mat Mrows Mx) → va_S A s.heap H locs → lv_has ls 10 [(0, .ref (aM 0)), (1, .int v1), (2, .int v2), (3, .int v3), (4, .int v4), (5, .int v5), (6, .long v6)] → W p l e rmX7_values s m args below meth c H locs 0 0 Q (F0 m 141 ls [.long s0]) := by
    intro K hKK E221 hE221 v3 v4 v5 v6 s0 Mvalue h H locs ls hP hD hS hl
    unfold BX7_values_141 at h
    refine lv_lstore (lv' := [(8, .long s0), (0, .ref (aM 0)), (1, .int v1), (2, .int v2), (3, .int v3), (4, .int v4), (5, .int v5), (6, .long v6)]) hx hb dX7_values_141 hl (by decide) rfl (fun ls hl => ?_)
    refine lv_aload_n hx hb dX7_values_143 rfl (lv_at hl 1 rfl) ?_
    refine va_get (D := D) (ci := 7) (v := .ref (aM 24)) (C := RX7) (T := TX7) (N := 37) hx hb hts iX7 hown hK hP 0 rfl rfl 28 (by decide) f79 (fun _ h9 => h9) rfl dX7_values_144 ?_
    refine lv_iload_n hx hb dX7_values_147 rfl (lv_at hl 4 rfl) ?_
    refine lv_iload hx hb dX7_values_148 (lv_at hl 6 rfl) ?_
    refine lv_iconst (v := 2) hx hb dX7_values_150 (by decide) ?_
    refine lv_icmp_ne (tgt := 162) hx hb dX7_values_151 (by decide) (fun c17 => ?_) (fun c17 => ?_)
    · replace h := sf_f c17 h
      refine lv_iload hx hb dX7_values_162 (lv_at hl 6 rfl) ?_
      refine lv_iconst (v := 3) hx hb dX7_values_164 (by decide) ?_
      refine lv_icmp_ne (tgt := 176) hx hb dX7_values_165 (by decide) (fun c18 => ?_) (fun c18 => ?_)
      · replace h := sf_f c18 h
        refine lv_iload hx hb dX7_values_176 (lv_at hl 6 rfl) ?_
        refine lv_iconst (v := 4) hx hb dX7_values_178 (by decide) ?_
        refine lv_icmp_ne (tgt := 190) hx hb dX7_values_179 (by decide) (fun c19 => ?_) (fun c19 => ?_)
        · replace h := sf_f c19 h
          refine lv_iload hx hb dX7_values_190 (lv_at hl 6 rfl) ?_
          refine lv_iconst (v := 5) hx hb dX7_values_192 (by decide) ?_
          refine lv_icmp_ne (tgt := 211) hx hb dX7_values_193 (by decide) (fun c20 => ?_) (fun c20 => ?_)
          · replace h := sf_f c20 h
            refine lv_lload hx hb dX7_values_211 (lv_at hl 7 rfl) ?_
            refine lv_lneg hx hb dX7_values_213 ?_
            obtain ⟨hi21, h⟩ := gi_inv h
            refine va_last hx hb hK hP hD hS 24 1 rfl rfl hi21 dX7_values_214 (fun H locs hP hD hS => ?_)
            replace hP : va_P D vwCl (wM k aM Mestimate Munit Msort Mwidth Mmany Mreading Mvariance Mcovariance Mline Mformulas Mroot Mkind Mone Mother Msigns Mplace MleftOf MrightOf Mtype Msum Msign MsignAt Mproduct (vp_updL Mvalue (v3.toNatClampNeg) (-v6)) Mslope Mexponent Mdrawn Mslopes Mfrom Mfactor Mthrown Mlength Mmodels Mopen Mat Mrows Mx) H := hP
            replace hD : va_D A (wM k aM Mestimate Munit Msort Mwidth Mmany Mreading Mvariance Mcovariance Mline Mformulas Mroot Mkind Mone Mother Msigns Mplace MleftOf MrightOf Mtype Msum Msign MsignAt Mproduct (vp_updL Mvalue (v3.toNatClampNeg) (-v6)) Mslope Mexponent Mdrawn Mslopes Mfrom Mfactor Mthrown Mlength Mmodels Mopen Mat Mrows Mx) := hD
            refine lv_iinc (v := v3 + 1) (lv' := [(3, .int (v3 + 1)), (8, .long s0), (0, .ref (aM 0)), (1, .int v1), (2, .int v2), (4, .int v4), (5, .int v5), (6, .long v6)]) hx hb dX7_values_215 hl (k := 4) rfl rfl (by decide) rfl (fun ls hl => ?_)
            refine lv_goto (tgt := 2) hx hb dX7_values_218 (by decide) ?_
            exact hKK _ _ h _ _ _ hP hD hS (lv_sub hl [2, 3, 4, 0] rfl)
          · replace h := sf_t c20 h
            refine lv_lload hx hb dX7_values_196 (lv_at hl 7 rfl) ?_
            refine lv_aload_n hx hb dX7_values_198 rfl (lv_at hl 1 rfl) ?_
            refine va_get (D := D) (ci := 7) (v := .ref (aM 14)) (C := RX7) (T := TX7) (N := 37) hx hb hts iX7 hown hK hP 0 rfl rfl 16 (by decide) f49 (fun _ h9 => h9) rfl dX7_values_199 ?_
            refine lv_iload hx hb dX7_values_202 (lv_at hl 5 rfl) ?_
            obtain ⟨hi22, h⟩ := gi_inv h
            refine va_iald hx hb hK hP 14 0 rfl rfl hi22 dX7_values_204 ?_
            obtain ⟨r23, hc23, h⟩ := bnd1_inv h
            have hPc := hP.sub (ws' := ([] : va_W)) [] rfl
            have hDc := hD.sub (ws' := ([] : va_W)) [] rfl rfl
            have hFc := va_free (wc := ([] : va_W)) hD hS hA [] rfl
            refine xc_l (va_runS (As := [.long v6, .int (Mother v4.toNatClampNeg)]) (rest := [.int v3, .ref (aM 24)]) ⟨hx, hb, hml, hown, hts⟩ (met_X7_power_ l D k  H.size v6 (Mother v4.toNatClampNeg) r23 hc23) (va_cwS 2 hts gX7_values_X7_power_ rfl rfl rfl (by decide +kernel) ⟨Nat.le_of_ble_eq_true rfl, Nat.le_of_ble_eq_true rfl⟩) ⟨pw_blind, pw_start hPc hK hDc⟩ rfl rfl hl.1 rfl (lv_room (Nat.le_of_ble_eq_true rfl)) dX7_values_205 ⟨Nat.zero_le _, Nat.zero_le _⟩) hS hFc (fun H1 locs hP1 hD1 hk1 hS => ?_)
            obtain ⟨hP, hD⟩ := vj (ws' := (wM k aM Mestimate Munit Msort Mwidth Mmany Mreading Mvariance Mcovariance Mline Mformulas Mroot Mkind Mone Mother Msigns Mplace MleftOf MrightOf Mtype Msum Msign MsignAt Mproduct Mvalue Mslope Mexponent Mdrawn Mslopes Mfrom Mfactor Mthrown Mlength Mmodels Mopen Mat Mrows Mx)) (w1 := ([] : va_W)) hP hD [] [0, 1, 2, 3, 4, 5, 6, 7, 8, 9, 10, 11, 12, 13, 14, 15, 16, 17, 18, 19, 20, 21, 22, 23, 24, 25, 26, 27, 28, 29, 30] [0, 1, 2, 3, 4, 5, 6, 7, 8, 9, 10, 11, 12, 13, 14, 15, 16, 17, 18, 19, 20, 21, 22, 23, 24, 25, 26, 27, 28, 29, 30] rfl rfl rfl rfl rfl hk1 hFc hP1 hD1
            clear hP1 hD1 hk1 hFc
            generalize H1 = H at hP hS ⊢
            refine lv_goto (tgt := 214) hx hb dX7_values_208 (by decide) ?_
            obtain ⟨hi24, h⟩ := gi_inv h
            refine va_last hx hb hK hP hD hS 24 1 rfl rfl hi24 dX7_values_214 (fun H locs hP hD hS => ?_)
            replace hP : va_P D vwCl (wM k aM Mestimate Munit Msort Mwidth Mmany Mreading Mvariance Mcovariance Mline Mformulas Mroot Mkind Mone Mother Msigns Mplace MleftOf MrightOf Mtype Msum Msign MsignAt Mproduct (vp_updL Mvalue (v3.toNatClampNeg) r23) Mslope Mexponent Mdrawn Mslopes Mfrom Mfactor Mthrown Mlength Mmodels Mopen Mat Mrows Mx) H := hP
            replace hD : va_D A (wM k aM Mestimate Munit Msort Mwidth Mmany Mreading Mvariance Mcovariance Mline Mformulas Mroot Mkind Mone Mother Msigns Mplace MleftOf MrightOf Mtype Msum Msign MsignAt Mproduct (vp_updL Mvalue (v3.toNatClampNeg) r23) Mslope Mexponent Mdrawn Mslopes Mfrom Mfactor Mthrown Mlength Mmodels Mopen Mat Mrows Mx) := hD
            refine lv_iinc (v := v3 + 1) (lv' := [(3, .int (v3 + 1)), (8, .long s0), (0, .ref (aM 0)), (1, .int v1), (2, .int v2), (4, .int v4), (5, .int v5), (6, .long v6)]) hx hb dX7_values_215 hl (k := 4) rfl rfl (by decide) rfl (fun ls hl => ?_)
            refine lv_goto (tgt := 2) hx hb dX7_values_218 (by decide) ?_
            exact hKK _ _ h _ _ _ hP hD hS (lv_sub hl [2, 3, 4, 0] rfl)
        · replace h := sf_t c19 h
          refine lv_lload hx hb dX7_values_182 (lv_at hl 7 rfl) ?_
          refine lv_lload hx hb dX7_values_184 (lv_at hl 0 rfl) ?_
          refine lv_lmul hx hb dX7_values_186 ?_
          refine lv_goto (tgt := 214) hx hb dX7_values_187 (by decide) ?_
          obtain ⟨hi25, h⟩ := gi_inv h
          refine va_last hx hb hK hP hD hS 24 1 rfl rfl hi25 dX7_values_214 (fun H locs hP hD hS => ?_)
          replace hP : va_P D vwCl (wM k aM Mestimate Munit Msort Mwidth Mmany Mreading Mvariance Mcovariance Mline Mformulas Mroot Mkind Mone Mother Msigns Mplace MleftOf MrightOf Mtype Msum Msign MsignAt Mproduct (vp_updL Mvalue (v3.toNatClampNeg) (v6 * s0)) Mslope Mexponent Mdrawn Mslopes Mfrom Mfactor Mthrown Mlength Mmodels Mopen Mat Mrows Mx) H := hP
          replace hD : va_D A (wM k aM Mestimate Munit Msort Mwidth Mmany Mreading Mvariance Mcovariance Mline Mformulas Mroot Mkind Mone Mother Msigns Mplace MleftOf MrightOf Mtype Msum Msign MsignAt Mproduct (vp_updL Mvalue (v3.toNatClampNeg) (v6 * s0)) Mslope Mexponent Mdrawn Mslopes Mfrom Mfactor Mthrown Mlength Mmodels Mopen Mat Mrows Mx) := hD
          refine lv_iinc (v := v3 + 1) (lv' := [(3, .int (v3 + 1)), (8, .long s0), (0, .ref (aM 0)), (1, .int v1), (2, .int v2), (4, .int v4), (5, .int v5), (6, .long v6)]) hx hb dX7_values_215 hl (k := 4) rfl rfl (by decide) rfl (fun ls hl => ?_)
          refine lv_goto (tgt := 2) hx hb dX7_values_218 (by decide) ?_
          exact hKK _ _ h _ _ _ hP hD hS (lv_sub hl [2, 3, 4, 0] rfl)
      · replace h := sf_t c18 h
        refine lv_lload hx hb dX7_values_168 (lv_at hl 7 rfl) ?_
        refine lv_lload hx hb dX7_values_170 (lv_at hl 0 rfl) ?_
        refine lv_lsub hx hb dX7_values_172 ?_
        refine lv_goto (tgt := 214) hx hb dX7_values_173 (by decide) ?_
        obtain ⟨hi26, h⟩ := gi_inv h
        refine va_last hx hb hK hP hD hS 24 1 rfl rfl hi26 dX7_values_214 (fun H locs hP hD hS => ?_)
        replace hP : va_P D vwCl (wM k aM Mestimate Munit Msort Mwidth Mmany Mreading Mvariance Mcovariance Mline Mformulas Mroot Mkind Mone Mother Msigns Mplace MleftOf MrightOf Mtype Msum Msign MsignAt Mproduct (vp_updL Mvalue (v3.toNatClampNeg) (v6 - s0)) Mslope Mexponent Mdrawn Mslopes Mfrom Mfactor Mthrown Mlength Mmodels Mopen Mat Mrows Mx) H := hP
        replace hD : va_D A (wM k aM Mestimate Munit Msort Mwidth Mmany Mreading Mvariance Mcovariance Mline Mformulas Mroot Mkind Mone Mother Msigns Mplace MleftOf MrightOf Mtype Msum Msign MsignAt Mproduct (vp_updL Mvalue (v3.toNatClampNeg) (v6 - s0)) Mslope Mexponent Mdrawn Mslopes Mfrom Mfactor Mthrown Mlength Mmodels Mopen Mat Mrows Mx) := hD
        refine lv_iinc (v := v3 + 1) (lv' := [(3, .int (v3 + 1)), (8, .long s0), (0, .ref (aM 0)), (1, .int v1), (2, .int v2), (4, .int v4), (5, .int v5), (6, .long v6)]) hx hb dX7_values_215 hl (k := 4) rfl rfl (by decide) rfl (fun ls hl => ?_)
        refine lv_goto (tgt := 2) hx hb dX7_values_218 (by decide) ?_
        exact hKK _ _ h _ _ _ hP hD hS (lv_sub hl [2, 3, 4, 0] rfl)
    · replace h := sf_t c17 h
      refine lv_lload hx hb dX7_values_154 (lv_at hl 7 rfl) ?_
      refine lv_lload hx hb dX7_values_156 (lv_at hl 0 rfl) ?_
      refine lv_ladd hx hb dX7_values_158 ?_
      refine lv_goto (tgt := 214) hx hb dX7_values_159 (by decide) ?_
      obtain ⟨hi27, h⟩ := gi_inv h
      refine va_last hx hb hK hP hD hS 24 1 rfl rfl hi27 dX7_values_214 (fun H locs hP hD hS => ?_)
      replace hP : va_P D vwCl (wM k aM Mestimate Munit Msort Mwidth Mmany Mreading Mvariance Mcovariance Mline Mformulas Mroot Mkind Mone Mother Msigns Mplace MleftOf MrightOf Mtype Msum Msign MsignAt Mproduct (vp_updL Mvalue (v3.toNatClampNeg) (v6 + s0)) Mslope Mexponent Mdrawn Mslopes Mfrom Mfactor Mthrown Mlength Mmodels Mopen Mat Mrows Mx) H := hP
      replace hD : va_D A (wM k aM Mestimate Munit Msort Mwidth Mmany Mreading Mvariance Mcovariance Mline Mformulas Mroot Mkind Mone Mother Msigns Mplace MleftOf MrightOf Mtype Msum Msign MsignAt Mproduct (vp_updL Mvalue (v3.toNatClampNeg) (v6 + s0)) Mslope Mexponent Mdrawn Mslopes Mfrom Mfactor Mthrown Mlength Mmodels Mopen Mat Mrows Mx) := hD
      refine lv_iinc (v := v3 + 1) (lv' := [(3, .int (v3 + 1)), (8, .long s0), (0, .ref (aM 0)), (1, .int v1), (2, .int v2), (4, .int v4), (5, .int v5), (6, .long v6)]) hx hb dX7_values_215 hl (k := 4) rfl rfl (by decide) rfl (fun ls hl => ?_)
      refine lv_goto (tgt := 2) hx hb dX7_values_218 (by decide) ?_
      exact hKK _ _ h _ _ _ hP hD hS (lv_sub hl [2, 3, 4, 0] rfl)
  have BH_125 : ∀ (K : Int32 → (Nat → Int64) → Option (Int64 × (Nat → Int64))) (hKK : ∀ (v3 : Int32) (Mvalue : Nat → Int64), K v3 Mvalue = some (r, RMvalue) → ∀ (H : Heap) (locs : List Loc) (ls : Array Slot), va_P D vwCl (wM k aM Mestimate Munit Msort Mwidth Mmany Mreading Mvariance Mcovariance Mline Mformulas Mroot Mkind Mone Mother Msigns Mplace MleftOf MrightOf Mtype Msum Msign MsignAt Mproduct Mvalue Mslope Mexponent Mdrawn Mslopes Mfrom Mfactor Mthrown Mlength Mmodels Mopen Mat Mrows Mx) H → va_D A (wM k aM Mestimate Munit Msort Mwidth Mmany Mreading Mvariance Mcovariance Mline Mformulas Mroot Mkind Mone Mother Msigns Mplace MleftOf MrightOf Mtype Msum Msign MsignAt Mproduct Mvalue Mslope Mexponent Mdrawn Mslopes Mfrom Mfactor Mthrown Mlength Mmodels Mopen Mat Mrows Mx) → va_S A s.heap H locs → lv_has ls 10 [(0, .ref (aM 0)), (1, .int v1), (2, .int v2), (3, .int v3)] → W p l e rmX7_values s m args below meth c H locs 0 0 Q (F0 m 2 ls [])) (E221 : (Nat → Int64) → Option (Int64 × (Nat → Int64))) (hE221 : ∀ (Mvalue : Nat → Int64), E221 Mvalue = some (r, RMvalue) → ∀ (H : Heap) (locs : List Loc) (ls : Array Slot), va_P D vwCl (wM k aM Mestimate Munit Msort Mwidth Mmany Mreading Mvariance Mcovariance Mline Mformulas Mroot Mkind Mone Mother Msigns Mplace MleftOf MrightOf Mtype Msum Msign MsignAt Mproduct Mvalue Mslope Mexponent Mdrawn Mslopes Mfrom Mfactor Mthrown Mlength Mmodels Mopen Mat Mrows Mx) H → va_D A (wM k aM Mestimate Munit Msort Mwidth Mmany Mreading Mvariance Mcovariance Mline Mformulas Mroot Mkind Mone Mother Msigns Mplace MleftOf MrightOf Mtype Msum Msign MsignAt Mproduct Mvalue Mslope Mexponent Mdrawn Mslopes Mfrom Mfactor Mthrown Mlength Mmodels Mopen Mat Mrows Mx) → va_S A s.heap H locs → lv_has ls 10 [(0, .ref (aM 0)), (1, .int v1)] → W p l e rmX7_values s m args below meth c H locs 0 0 Q (F0 m 221 ls [])) (v3 : Int32) (v4 : Int32) (v5 : Int32) (v6 : Int64) (Mvalue : Nat → Int64), BX7_values_125 Mestimate Mformulas Mroot Mkind Mone Mother Mdrawn v1 v2 K E221 v3 v4 v5 v6 Mvalue = some (r, RMvalue) → ∀ (H : Heap) (locs : List Loc) (ls : Array Slot), va_P D vwCl (wM k aM Mestimate Munit Msort Mwidth Mmany Mreading Mvariance Mcovariance Mline Mformulas Mroot Mkind Mone Mother Msigns Mplace MleftOf MrightOf Mtype Msum Msign MsignAt Mproduct Mvalue Mslope Mexponent Mdrawn Mslopes Mfrom Mfactor Mthrown Mlength Mmodels Mopen Mat Mrows Mx) H → va_D A (wM k aM Mestimate Munit Msort Mwidth Mmany Mreading Mvariance Mcovariance Mline Mformulas Mroot Mkind Mone Mother Msigns Mplace MleftOf MrightOf Mtype Msum Msign MsignAt Mproduct Mvalue Mslope Mexponent Mdrawn Mslopes Mfrom Mfactor Mthrown Mlength Mmodels Mopen Mat Mrows Mx) → va_S A s.heap H locs → lv_has ls 10 [(0, .ref (aM 0)), (1, .int v1), (2, .int v2), (3, .int v3), (4, .int v4), (5, .int v5), (6, .long v6)] → W p l e rmX7_values s m args below meth c H locs 0 0 Q (F0 m 125 ls []) := by
    intro K hKK E221 hE221 v3 v4 v5 v6 Mvalue h H locs ls hP hD hS hl
    unfold BX7_values_125 at h
    refine lv_lconst (v := 0) hx hb dX7_values_125 (by decide) ?_
    refine lv_goto (tgt := 141) hx hb dX7_values_126 (by decide) ?_
    exact BH_141 _ hKK _ hE221 _ _ _ _ _ _ h _ _ _ hP hD hS (lv_sub hl [0, 1, 2, 3, 4, 5, 6] rfl)
  have LH_2 : ∀ (E221 : (Nat → Int64) → Option (Int64 × (Nat → Int64))) (hE221 : ∀ (Mvalue : Nat → Int64), E221 Mvalue = some (r, RMvalue) → ∀ (H : Heap) (locs : List Loc) (ls : Array Slot), va_P D vwCl (wM k aM Mestimate Munit Msort Mwidth Mmany Mreading Mvariance Mcovariance Mline Mformulas Mroot Mkind Mone Mother Msigns Mplace MleftOf MrightOf Mtype Msum Msign MsignAt Mproduct Mvalue Mslope Mexponent Mdrawn Mslopes Mfrom Mfactor Mthrown Mlength Mmodels Mopen Mat Mrows Mx) H → va_D A (wM k aM Mestimate Munit Msort Mwidth Mmany Mreading Mvariance Mcovariance Mline Mformulas Mroot Mkind Mone Mother Msigns Mplace MleftOf MrightOf Mtype Msum Msign MsignAt Mproduct Mvalue Mslope Mexponent Mdrawn Mslopes Mfrom Mfactor Mthrown Mlength Mmodels Mopen Mat Mrows Mx) → va_S A s.heap H locs → lv_has ls 10 [(0, .ref (aM 0)), (1, .int v1)] → W p l e rmX7_values s m args below meth c H locs 0 0 Q (F0 m 221 ls [])) (n : Nat) (v3 : Int32) (Mvalue : Nat → Int64), LX7_values_2 Mestimate Mformulas Mroot Mkind Mone Mother Mdrawn v1 v2 E221 n v3 Mvalue = some (r, RMvalue) → ∀ (H : Heap) (locs : List Loc) (ls : Array Slot), va_P D vwCl (wM k aM Mestimate Munit Msort Mwidth Mmany Mreading Mvariance Mcovariance Mline Mformulas Mroot Mkind Mone Mother Msigns Mplace MleftOf MrightOf Mtype Msum Msign MsignAt Mproduct Mvalue Mslope Mexponent Mdrawn Mslopes Mfrom Mfactor Mthrown Mlength Mmodels Mopen Mat Mrows Mx) H → va_D A (wM k aM Mestimate Munit Msort Mwidth Mmany Mreading Mvariance Mcovariance Mline Mformulas Mroot Mkind Mone Mother Msigns Mplace MleftOf MrightOf Mtype Msum Msign MsignAt Mproduct Mvalue Mslope Mexponent Mdrawn Mslopes Mfrom Mfactor Mthrown Mlength Mmodels Mopen Mat Mrows Mx) → va_S A s.heap H locs → lv_has ls 10 [(0, .ref (aM 0)), (1, .int v1), (2, .int v2), (3, .int v3)] → W p l e rmX7_values s m args below meth c H locs 0 0 Q (F0 m 2 ls []) := by
    intro E221 hE221 n
    induction n with
    | zero => intro v3 Mvalue h; simp [LX7_values_2] at h
    | succ n ih =>
    intro v3 Mvalue h H locs ls hP hD hS hl
    rw [LX7_values_2] at h
    refine lv_iload_n hx hb dX7_values_2 rfl (lv_at hl 3 rfl) ?_
    refine lv_aload_n hx hb dX7_values_3 rfl (lv_at hl 0 rfl) ?_
    refine va_get (D := D) (ci := 7) (v := .ref (aM 10)) (C := RX7) (T := TX7) (N := 37) hx hb hts iX7 hown hK hP 0 rfl rfl 12 (by decide) f37 (fun _ h9 => h9) rfl dX7_values_4 ?_
    refine lv_iload_n hx hb dX7_values_7 rfl (lv_at hl 1 rfl) ?_
    obtain ⟨hi1, h⟩ := gi_inv h
    refine va_iald hx hb hK hP 10 0 rfl rfl hi1 dX7_values_8 ?_
    refine lv_icmp_ge (tgt := 221) hx hb dX7_values_9 (by decide) (fun c2 => ?_) (fun c2 => ?_)
    · replace h := sf_t c2 h
      exact hE221 _ h _ _ _ hP hD hS (lv_sub hl [0, 1] rfl)
    · replace h := sf_f c2 h
      refine lv_bipush (v := 64) hx hb dX7_values_12 (by decide) ?_
      refine lv_iload_n hx hb dX7_values_14 rfl (lv_at hl 1 rfl) ?_
      refine lv_imul hx hb dX7_values_15 ?_
      refine lv_iload_n hx hb dX7_values_16 rfl (lv_at hl 3 rfl) ?_
      refine lv_iadd hx hb dX7_values_17 ?_
      refine lv_istore (lv' := [(4, .int ((64 * v1) + v3)), (0, .ref (aM 0)), (1, .int v1), (2, .int v2), (3, .int v3)]) hx hb dX7_values_18 hl (by decide) rfl (fun ls hl => ?_)
      refine lv_aload_n hx hb dX7_values_20 rfl (lv_at hl 1 rfl) ?_
      refine va_get (D := D) (ci := 7) (v := .ref (aM 12)) (C := RX7) (T := TX7) (N := 37) hx hb hts iX7 hown hK hP 0 rfl rfl 14 (by decide) f43 (fun _ h9 => h9) rfl dX7_values_21 ?_
      refine lv_iload hx hb dX7_values_24 (lv_at hl 0 rfl) ?_
      obtain ⟨hi3, h⟩ := gi_inv h
      refine va_iald hx hb hK hP 12 0 rfl rfl hi3 dX7_values_26 ?_
      refine lv_istore (lv' := [(5, .int (Mkind ((64 * v1) + v3).toNatClampNeg)), (4, .int ((64 * v1) + v3)), (0, .ref (aM 0)), (1, .int v1), (2, .int v2), (3, .int v3)]) hx hb dX7_values_27 hl (by decide) rfl (fun ls hl => ?_)
      refine lv_iload hx hb dX7_values_29 (lv_at hl 0 rfl) ?_
      refine lv_if_eq (tgt := 40) hx hb dX7_values_31 (by decide) (fun c4 => ?_) (fun c4 => ?_)
      · replace h := sf_t c4 h
        exact BH_40 _ ih _ hE221 _ _ _ _ h _ _ _ hP hD hS (lv_sub hl [2, 3, 4, 5, 1, 0] rfl)
      · replace h := sf_f c4 h
        refine lv_iload hx hb dX7_values_34 (lv_at hl 0 rfl) ?_
        refine lv_iconst (v := 1) hx hb dX7_values_36 (by decide) ?_
        refine lv_icmp_ne (tgt := 98) hx hb dX7_values_37 (by decide) (fun c13 => ?_) (fun c13 => ?_)
        · replace h := sf_f c13 h
          refine lv_aload_n hx hb dX7_values_98 rfl (lv_at hl 2 rfl) ?_
          refine va_get (D := D) (ci := 7) (v := .ref (aM 24)) (C := RX7) (T := TX7) (N := 37) hx hb hts iX7 hown hK hP 0 rfl rfl 28 (by decide) f79 (fun _ h9 => h9) rfl dX7_values_99 ?_
          refine lv_aload_n hx hb dX7_values_102 rfl (lv_at hl 2 rfl) ?_
          refine va_get (D := D) (ci := 7) (v := .ref (aM 13)) (C := RX7) (T := TX7) (N := 37) hx hb hts iX7 hown hK hP 0 rfl rfl 15 (by decide) f46 (fun _ h9 => h9) rfl dX7_values_103 ?_
          refine lv_iload hx hb dX7_values_106 (lv_at hl 1 rfl) ?_
          obtain ⟨hi14, h⟩ := gi_inv h
          refine va_iald hx hb hK hP 13 0 rfl rfl hi14 dX7_values_108 ?_
          obtain ⟨hi15, h⟩ := gi_inv h
          refine va_lald hx hb hK hP 24 1 rfl rfl hi15 dX7_values_109 ?_
          refine lv_lstore (lv' := [(6, .long (Mvalue (Mone ((64 * v1) + v3).toNatClampNeg).toNatClampNeg)), (5, .int (Mkind ((64 * v1) + v3).toNatClampNeg)), (4, .int ((64 * v1) + v3)), (0, .ref (aM 0)), (1, .int v1), (2, .int v2), (3, .int v3)]) hx hb dX7_values_110 hl (by decide) rfl (fun ls hl => ?_)
          refine lv_iload hx hb dX7_values_112 (lv_at hl 1 rfl) ?_
          refine lv_iconst (v := 5) hx hb dX7_values_114 (by decide) ?_
          refine lv_icmp_eq (tgt := 125) hx hb dX7_values_115 (by decide) (fun c16 => ?_) (fun c16 => ?_)
          · replace h := sf_t c16 h
            exact BH_125 _ ih _ hE221 _ _ _ _ _ h _ _ _ hP hD hS (lv_sub hl [3, 4, 5, 6, 2, 1, 0] rfl)
          · replace h := sf_f c16 h
            refine lv_iload hx hb dX7_values_118 (lv_at hl 1 rfl) ?_
            refine lv_bipush (v := 6) hx hb dX7_values_120 (by decide) ?_
            refine lv_icmp_ne (tgt := 129) hx hb dX7_values_122 (by decide) (fun c28 => ?_) (fun c28 => ?_)
            · replace h := sf_f c28 h
              refine lv_aload_n hx hb dX7_values_129 rfl (lv_at hl 3 rfl) ?_
              refine va_get (D := D) (ci := 7) (v := .ref (aM 24)) (C := RX7) (T := TX7) (N := 37) hx hb hts iX7 hown hK hP 0 rfl rfl 28 (by decide) f79 (fun _ h9 => h9) rfl dX7_values_130 ?_
              refine lv_aload_n hx hb dX7_values_133 rfl (lv_at hl 3 rfl) ?_
              refine va_get (D := D) (ci := 7) (v := .ref (aM 14)) (C := RX7) (T := TX7) (N := 37) hx hb hts iX7 hown hK hP 0 rfl rfl 16 (by decide) f49 (fun _ h9 => h9) rfl dX7_values_134 ?_
              refine lv_iload hx hb dX7_values_137 (lv_at hl 2 rfl) ?_
              obtain ⟨hi29, h⟩ := gi_inv h
              refine va_iald hx hb hK hP 14 0 rfl rfl hi29 dX7_values_139 ?_
              obtain ⟨hi30, h⟩ := gi_inv h
              refine va_lald hx hb hK hP 24 1 rfl rfl hi30 dX7_values_140 ?_
              exact BH_141 _ ih _ hE221 _ _ _ _ _ _ h _ _ _ hP hD hS (lv_sub hl [3, 4, 5, 6, 2, 1, 0] rfl)
            · replace h := sf_t c28 h
              exact BH_125 _ ih _ hE221 _ _ _ _ _ h _ _ _ hP hD hS (lv_sub hl [3, 4, 5, 6, 2, 1, 0] rfl)
        · replace h := sf_t c13 h
          exact BH_40 _ ih _ hE221 _ _ _ _ h _ _ _ hP hD hS (lv_sub hl [2, 3, 4, 5, 1, 0] rfl)
  suffices main : ∀ (H : Heap) (locs : List Loc) (ls : Array Slot), va_P D vwCl (wM k aM Mestimate Munit Msort Mwidth Mmany Mreading Mvariance Mcovariance Mline Mformulas Mroot Mkind Mone Mother Msigns Mplace MleftOf MrightOf Mtype Msum Msign MsignAt Mproduct Mvalue Mslope Mexponent Mdrawn Mslopes Mfrom Mfactor Mthrown Mlength Mmodels Mopen Mat Mrows Mx) H → va_D A (wM k aM Mestimate Munit Msort Mwidth Mmany Mreading Mvariance Mcovariance Mline Mformulas Mroot Mkind Mone Mother Msigns Mplace MleftOf MrightOf Mtype Msum Msign MsignAt Mproduct Mvalue Mslope Mexponent Mdrawn Mslopes Mfrom Mfactor Mthrown Mlength Mmodels Mopen Mat Mrows Mx) → va_S A s.heap H locs → lv_has ls 10 [(0, .ref (aM 0)), (1, .int v1), (2, .int v2)] → W p l e rmX7_values s m args below meth c H locs 0 0 Q (F0 m 0 ls []) from main _ _ _ hP hD hS hl
  clear hP hD hS hl ls hAe
  intro H locs ls hP hD hS hl
  refine lv_iconst (v := 0) hx hb dX7_values_0 (by decide) ?_
  refine lv_istore_n (lv' := [(3, .int 0), (0, .ref (aM 0)), (1, .int v1), (2, .int v2)]) hx hb dX7_values_1 rfl hl (by decide) rfl (fun ls hl => ?_)
  refine LH_2 _ (fun Mvalue h H locs ls hP hD hS hl => ?_) _ _ _ h _ _ _ hP hD hS (lv_sub hl [1, 2, 3, 0] rfl)
  · skip
    refine lv_aload_n hx hb dX7_values_221 rfl (lv_at hl 0 rfl) ?_
    refine va_get (D := D) (ci := 7) (v := .ref (aM 24)) (C := RX7) (T := TX7) (N := 37) hx hb hts iX7 hown hK hP 0 rfl rfl 28 (by decide) f79 (fun _ h9 => h9) rfl dX7_values_222 ?_
    refine lv_aload_n hx hb dX7_values_225 rfl (lv_at hl 0 rfl) ?_
    refine va_get (D := D) (ci := 7) (v := .ref (aM 11)) (C := RX7) (T := TX7) (N := 37) hx hb hts iX7 hown hK hP 0 rfl rfl 13 (by decide) f40 (fun _ h9 => h9) rfl dX7_values_226 ?_
    refine lv_iload_n hx hb dX7_values_229 rfl (lv_at hl 1 rfl) ?_
    obtain ⟨hi31, h⟩ := gi_inv h
    refine va_iald hx hb hK hP 11 0 rfl rfl hi31 dX7_values_230 ?_
    obtain ⟨hi32, h⟩ := gi_inv h
    refine va_lald hx hb hK hP 24 1 rfl rfl hi32 dX7_values_231 ?_
    have hP9 := hP
    have hD9 := hD
    have hS9 := hS
    subst hQ
    cases h
    exact W.lret hx hb hr (fun t ht hW => ⟨⟨_, (), rfl, rfl, by rw [ht]; exact hP9, va_K.moved hW.alike hK, hD9⟩, hS9.F ht⟩) hS9.2.2 dX7_values_232
def BX7_value_14 (Mestimate : Nat → Int32) (Mformulas : Nat → Int32) (Mroot : Nat → Int32) (Mkind : Nat → Int32) (Mone : Nat → Int32) (Mother : Nat → Int32) (Mdrawn : Nat → Int32) (Mmodels : Int32) (v1 : Int32)  (s1 : Int32) (Mvalue : Nat → Int64) (Mthrown : Int32) : Option (Int64 × (Nat → Int64) × Int32) := bnd2 (fX7_holds s1 Mthrown) (fun r3 thrown_3 => (if r3 = 0 then some (0, Mvalue, thrown_3) else bnd2 (fX7_values v1 0 Mestimate Mformulas Mroot Mkind Mone Mother Mvalue Mdrawn) (fun r5 value_5 => some (r5, value_5, thrown_3))))
def fX7_value (v1 : Int32) (Mestimate : Nat → Int32) (Mformulas : Nat → Int32) (Mroot : Nat → Int32) (Mkind : Nat → Int32) (Mone : Nat → Int32) (Mother : Nat → Int32) (Mvalue : Nat → Int64) (Mdrawn : Nat → Int32) (Mthrown : Int32) (Mmodels : Int32) : Option (Int64 × (Nat → Int64) × Int32) := bnd1 (fX7_isModel v1 Mmodels) (fun r1 => (if r1 = 0 then BX7_value_14 Mestimate Mformulas Mroot Mkind Mone Mother Mdrawn Mmodels v1 1 Mvalue Mthrown else BX7_value_14 Mestimate Mformulas Mroot Mkind Mone Mother Mdrawn Mmodels v1 0 Mvalue Mthrown))
abbrev rmX7_value : Room := { frames := 2, cells := 0, slots := 0, locals := 54 }
set_option maxHeartbeats 4000000 in
set_option maxRecDepth 100000 in
theorem met_X7_value (l : Launch) (D : va_G) (k : Nat → ClassId)  (aM : Nat → Nat) (sz : Nat) (Mestimate : Nat → Int32) (Munit : Nat → Int32) (Msort : Nat → Int32) (Mwidth : Nat → Int32) (Mmany : Nat → Int32) (Mreading : Nat → Int32) (Mvariance : Nat → Int32) (Mcovariance : Nat → Int32) (Mline : Nat → Int32) (Mformulas : Nat → Int32) (Mroot : Nat → Int32) (Mkind : Nat → Int32) (Mone : Nat → Int32) (Mother : Nat → Int32) (Msigns : Nat → Int32) (Mplace : Nat → Int32) (MleftOf : Nat → Int32) (MrightOf : Nat → Int32) (Mtype : Nat → Int32) (Msum : Nat → Int32) (Msign : Nat → Int32) (MsignAt : Nat → Int32) (Mproduct : Nat → Int32) (Mvalue : Nat → Int64) (Mslope : Nat → Int64) (Mexponent : Nat → Int32) (Mdrawn : Nat → Int32) (Mslopes : Nat → Int64) (Mfrom : Nat → Int32) (Mfactor : Nat → Int32) (Mthrown : Int32) (Mlength : Int32) (Mmodels : Int32) (Mopen : Int32) (Mat : Int32) (Mrows : Int32) (Mx : Int32) (v1 : Int32) (r : Int64) (RMvalue : Nat → Int64) (RMthrown : Int32) (h : fX7_value v1 Mestimate Mformulas Mroot Mkind Mone Mother Mvalue Mdrawn Mthrown Mmodels = some (r, RMvalue, RMthrown)) : Met l yX7_value wsX7_value rmX7_value (va_Pc [.ref (aM 0), .int v1] (PreW D k (wM k aM Mestimate Munit Msort Mwidth Mmany Mreading Mvariance Mcovariance Mline Mformulas Mroot Mkind Mone Mother Msigns Mplace MleftOf MrightOf Mtype Msum Msign MsignAt Mproduct Mvalue Mslope Mexponent Mdrawn Mslopes Mfrom Mfactor Mthrown Mlength Mmodels Mopen Mat Mrows Mx) sz)) (va_Ql (fun r9 (_ : Unit) => r9 = r) (fun _ t => PostW D k (va_A (wM k aM Mestimate Munit Msort Mwidth Mmany Mreading Mvariance Mcovariance Mline Mformulas Mroot Mkind Mone Mother Msigns Mplace MleftOf MrightOf Mtype Msum Msign MsignAt Mproduct Mvalue Mslope Mexponent Mdrawn Mslopes Mfrom Mfactor Mthrown Mlength Mmodels Mopen Mat Mrows Mx) sz) (wM k aM Mestimate Munit Msort Mwidth Mmany Mreading Mvariance Mcovariance Mline Mformulas Mroot Mkind Mone Mother Msigns Mplace MleftOf MrightOf Mtype Msum Msign MsignAt Mproduct RMvalue Mslope Mexponent Mdrawn Mslopes Mfrom Mfactor RMthrown Mlength Mmodels Mopen Mat Mrows Mx) t) (va_A (wM k aM Mestimate Munit Msort Mwidth Mmany Mreading Mvariance Mcovariance Mline Mformulas Mroot Mkind Mone Mother Msigns Mplace MleftOf MrightOf Mtype Msum Msign MsignAt Mproduct Mvalue Mslope Mexponent Mdrawn Mslopes Mfrom Mfactor Mthrown Mlength Mmodels Mopen Mat Mrows Mx) sz)) 0 0 (va_A (wM k aM Mestimate Munit Msort Mwidth Mmany Mreading Mvariance Mcovariance Mline Mformulas Mroot Mkind Mone Mother Msigns Mplace MleftOf MrightOf Mtype Msum Msign MsignAt Mproduct Mvalue Mslope Mexponent Mdrawn Mslopes Mfrom Mfactor Mthrown Mlength Mmodels Mopen Mat Mrows Mx) sz) := by
  refine Met.ofW (cc := cX7_value) (maxL := 2) (ret := (some .long)) (by decide) rfl ?_
  intro p e s m args below meth c s₁ B hml hv
  obtain ⟨hav, hsz, hP, hK, hD0⟩ := hv
  have hx := B.exec
  have hb := B.bytes
  have hr := B.returns
  have hts := atoms_spec (ws := wsX7_value) B.pre
  have hown : s.vm.findClass RX7 = some m.cls := findClass_of_methodNamed B.named
  have hlocks := B.notSynchronized
  subst hsz
  have hD := hD0.self (sz := s.heap.size)
  clear hD0
  generalize hAe : va_A (wM k aM Mestimate Munit Msort Mwidth Mmany Mreading Mvariance Mcovariance Mline Mformulas Mroot Mkind Mone Mother Msigns Mplace MleftOf MrightOf Mtype Msum Msign MsignAt Mproduct Mvalue Mslope Mexponent Mdrawn Mslopes Mfrom Mfactor Mthrown Mlength Mmodels Mopen Mat Mrows Mx) s.heap.size = A at hD ⊢
  have hA : ∀ q : Nat, s.heap.size ≤ q → A q := fun q h => by rw [← hAe]; exact Or.inr h
  have hS : va_S A s.heap s.heap [] := va_S.rf
  have hl := lv_entry ([.ref (aM 0), .int v1]) (n := 2) (Nat.le_of_ble_eq_true rfl)
  rw [show entryFrame m args 2 = entryFrame m ([.ref (aM 0), .int v1] : List Value).toArray 2 from by rw [hav], lg_entry_eq]
  generalize (lg_sl ([.ref (aM 0), .int v1]) ++ List.replicate (2 - (lg_sl ([.ref (aM 0), .int v1])).length) Slot.unset).toArray = ls at hl ⊢
  replace hl : lv_has ls 2 [(0, .ref (aM 0)), (1, .int v1)] := hl
  refine w_q (fun Q hQ => ?_)
  unfold fX7_value at h
  show W p l e rmX7_value s m args below meth c s.heap [] 0 0 Q (F0 m 0 ls [])
  have BH_14 : ∀ (s1 : Int32) (Mvalue : Nat → Int64) (Mthrown : Int32), BX7_value_14 Mestimate Mformulas Mroot Mkind Mone Mother Mdrawn Mmodels v1 s1 Mvalue Mthrown = some (r, RMvalue, RMthrown) → ∀ (H : Heap) (locs : List Loc) (ls : Array Slot), va_P D vwCl (wM k aM Mestimate Munit Msort Mwidth Mmany Mreading Mvariance Mcovariance Mline Mformulas Mroot Mkind Mone Mother Msigns Mplace MleftOf MrightOf Mtype Msum Msign MsignAt Mproduct Mvalue Mslope Mexponent Mdrawn Mslopes Mfrom Mfactor Mthrown Mlength Mmodels Mopen Mat Mrows Mx) H → va_D A (wM k aM Mestimate Munit Msort Mwidth Mmany Mreading Mvariance Mcovariance Mline Mformulas Mroot Mkind Mone Mother Msigns Mplace MleftOf MrightOf Mtype Msum Msign MsignAt Mproduct Mvalue Mslope Mexponent Mdrawn Mslopes Mfrom Mfactor Mthrown Mlength Mmodels Mopen Mat Mrows Mx) → va_S A s.heap H locs → lv_has ls 2 [(0, .ref (aM 0)), (1, .int v1)] → W p l e rmX7_value s m args below meth c H locs 0 0 Q (F0 m 14 ls [.int s1, .ref (aM 0)]) := by
    intro  s1 Mvalue Mthrown h H locs ls hP hD hS hl
    unfold BX7_value_14 at h
    obtain ⟨r3, thrown_3, hc3, h⟩ := bnd2_inv h
    have hFc := va_free (wc := (wM k aM Mestimate Munit Msort Mwidth Mmany Mreading Mvariance Mcovariance Mline Mformulas Mroot Mkind Mone Mother Msigns Mplace MleftOf MrightOf Mtype Msum Msign MsignAt Mproduct Mvalue Mslope Mexponent Mdrawn Mslopes Mfrom Mfactor Mthrown Mlength Mmodels Mopen Mat Mrows Mx)) hD hS hA [0, 1, 2, 3, 4, 5, 6, 7, 8, 9, 10, 11, 12, 13, 14, 15, 16, 17, 18, 19, 20, 21, 22, 23, 24, 25, 26, 27, 28, 29, 30] rfl
    refine xc_i (va_runV (As := [.int s1]) (rest := []) ⟨hx, hb, hml, hown, hts⟩ (met_X7_holds l D k  aM H.size Mestimate Munit Msort Mwidth Mmany Mreading Mvariance Mcovariance Mline Mformulas Mroot Mkind Mone Mother Msigns Mplace MleftOf MrightOf Mtype Msum Msign MsignAt Mproduct Mvalue Mslope Mexponent Mdrawn Mslopes Mfrom Mfactor Mthrown Mlength Mmodels Mopen Mat Mrows Mx s1 r3 thrown_3 hc3) (cwV 1 hts gX7_value_X7_holds rfl rfl rfl (by decide +kernel) ⟨Nat.le_of_ble_eq_true rfl, Nat.le_of_ble_eq_true rfl⟩) ⟨pw_blind, va_recv hK hP (ci := 7) (q0 := 0) rfl rfl, pw_start hP hK hD⟩ rfl rfl hl.1 rfl (lv_room (Nat.le_of_ble_eq_true rfl)) dX7_value_14 ⟨Nat.zero_le _, Nat.zero_le _⟩) hS hFc (fun H1 locs hP1 hD1 hk1 hS => ?_)
    obtain ⟨hP, hD⟩ := vj_all hFc hP1 hD1
    clear hP1 hD1 hk1 hFc
    generalize H1 = H at hP hS ⊢
    refine lv_if_eq (tgt := 29) hx hb dX7_value_17 (by decide) (fun c4 => ?_) (fun c4 => ?_)
    · replace h := sf_t c4 h
      refine lv_lconst (v := 0) hx hb dX7_value_29 (by decide) ?_
      have hP9 := hP
      have hD9 := hD
      have hS9 := hS
      subst hQ
      cases h
      exact W.lret hx hb hr (fun t ht hW => ⟨⟨_, (), rfl, rfl, by rw [ht]; exact hP9, va_K.moved hW.alike hK, hD9⟩, hS9.F ht⟩) hS9.2.2 dX7_value_30
    · replace h := sf_f c4 h
      refine lv_aload_n hx hb dX7_value_20 rfl (lv_at hl 0 rfl) ?_
      refine lv_iload_n hx hb dX7_value_21 rfl (lv_at hl 1 rfl) ?_
      refine lv_iconst (v := 0) hx hb dX7_value_22 (by decide) ?_
      obtain ⟨r5, value_5, hc5, h⟩ := bnd2_inv h
      have hFc := va_free (wc := (wM k aM Mestimate Munit Msort Mwidth Mmany Mreading Mvariance Mcovariance Mline Mformulas Mroot Mkind Mone Mother Msigns Mplace MleftOf MrightOf Mtype Msum Msign MsignAt Mproduct Mvalue Mslope Mexponent Mdrawn Mslopes Mfrom Mfactor thrown_3 Mlength Mmodels Mopen Mat Mrows Mx)) hD hS hA [0, 1, 2, 3, 4, 5, 6, 7, 8, 9, 10, 11, 12, 13, 14, 15, 16, 17, 18, 19, 20, 21, 22, 23, 24, 25, 26, 27, 28, 29, 30] rfl
      refine xc_l (va_runV (As := [.int v1, .int 0]) (rest := []) ⟨hx, hb, hml, hown, hts⟩ (met_X7_values l D k  aM H.size Mestimate Munit Msort Mwidth Mmany Mreading Mvariance Mcovariance Mline Mformulas Mroot Mkind Mone Mother Msigns Mplace MleftOf MrightOf Mtype Msum Msign MsignAt Mproduct Mvalue Mslope Mexponent Mdrawn Mslopes Mfrom Mfactor thrown_3 Mlength Mmodels Mopen Mat Mrows Mx v1 0 r5 value_5 hc5) (cwV 2 hts gX7_value_X7_values rfl rfl rfl (by decide +kernel) ⟨Nat.le_of_ble_eq_true rfl, Nat.le_of_ble_eq_true rfl⟩) ⟨pw_blind, va_recv hK hP (ci := 7) (q0 := 0) rfl rfl, pw_start hP hK hD⟩ rfl rfl hl.1 rfl (lv_room (Nat.le_of_ble_eq_true rfl)) dX7_value_23 ⟨Nat.zero_le _, Nat.zero_le _⟩) hS hFc (fun H1 locs hP1 hD1 hk1 hS => ?_)
      obtain ⟨hP, hD⟩ := vj_all hFc hP1 hD1
      clear hP1 hD1 hk1 hFc
      generalize H1 = H at hP hS ⊢
      refine lv_goto (tgt := 30) hx hb dX7_value_26 (by decide) ?_
      have hP9 := hP
      have hD9 := hD
      have hS9 := hS
      subst hQ
      cases h
      exact W.lret hx hb hr (fun t ht hW => ⟨⟨_, (), rfl, rfl, by rw [ht]; exact hP9, va_K.moved hW.alike hK, hD9⟩, hS9.F ht⟩) hS9.2.2 dX7_value_30
  suffices main : ∀ (H : Heap) (locs : List Loc) (ls : Array Slot), va_P D vwCl (wM k aM Mestimate Munit Msort Mwidth Mmany Mreading Mvariance Mcovariance Mline Mformulas Mroot Mkind Mone Mother Msigns Mplace MleftOf MrightOf Mtype Msum Msign MsignAt Mproduct Mvalue Mslope Mexponent Mdrawn Mslopes Mfrom Mfactor Mthrown Mlength Mmodels Mopen Mat Mrows Mx) H → va_D A (wM k aM Mestimate Munit Msort Mwidth Mmany Mreading Mvariance Mcovariance Mline Mformulas Mroot Mkind Mone Mother Msigns Mplace MleftOf MrightOf Mtype Msum Msign MsignAt Mproduct Mvalue Mslope Mexponent Mdrawn Mslopes Mfrom Mfactor Mthrown Mlength Mmodels Mopen Mat Mrows Mx) → va_S A s.heap H locs → lv_has ls 2 [(0, .ref (aM 0)), (1, .int v1)] → W p l e rmX7_value s m args below meth c H locs 0 0 Q (F0 m 0 ls []) from main _ _ _ hP hD hS hl
  clear hP hD hS hl ls hAe
  intro H locs ls hP hD hS hl
  refine lv_aload_n hx hb dX7_value_0 rfl (lv_at hl 0 rfl) ?_
  refine lv_aload_n hx hb dX7_value_1 rfl (lv_at hl 0 rfl) ?_
  refine lv_iload_n hx hb dX7_value_2 rfl (lv_at hl 1 rfl) ?_
  obtain ⟨r1, hc1, h⟩ := bnd1_inv h
  have hFc := va_free (wc := (wM k aM Mestimate Munit Msort Mwidth Mmany Mreading Mvariance Mcovariance Mline Mformulas Mroot Mkind Mone Mother Msigns Mplace MleftOf MrightOf Mtype Msum Msign MsignAt Mproduct Mvalue Mslope Mexponent Mdrawn Mslopes Mfrom Mfactor Mthrown Mlength Mmodels Mopen Mat Mrows Mx)) hD hS hA [0, 1, 2, 3, 4, 5, 6, 7, 8, 9, 10, 11, 12, 13, 14, 15, 16, 17, 18, 19, 20, 21, 22, 23, 24, 25, 26, 27, 28, 29, 30] rfl
  refine xc_i (va_runV (As := [.int v1]) (rest := [.ref (aM 0)]) ⟨hx, hb, hml, hown, hts⟩ (met_X7_isModel l D k  aM H.size Mestimate Munit Msort Mwidth Mmany Mreading Mvariance Mcovariance Mline Mformulas Mroot Mkind Mone Mother Msigns Mplace MleftOf MrightOf Mtype Msum Msign MsignAt Mproduct Mvalue Mslope Mexponent Mdrawn Mslopes Mfrom Mfactor Mthrown Mlength Mmodels Mopen Mat Mrows Mx v1 r1 hc1) (cwV 1 hts gX7_value_X7_isModel rfl rfl rfl (by decide +kernel) ⟨Nat.le_of_ble_eq_true rfl, Nat.le_of_ble_eq_true rfl⟩) ⟨pw_blind, va_recv hK hP (ci := 7) (q0 := 0) rfl rfl, pw_start hP hK hD⟩ rfl rfl hl.1 rfl (lv_room (Nat.le_of_ble_eq_true rfl)) dX7_value_3 ⟨Nat.zero_le _, Nat.zero_le _⟩) hS hFc (fun H1 locs hP1 hD1 hk1 hS => ?_)
  obtain ⟨hP, hD⟩ := vj_all hFc hP1 hD1
  clear hP1 hD1 hk1 hFc
  generalize H1 = H at hP hS ⊢
  refine lv_if_eq (tgt := 13) hx hb dX7_value_6 (by decide) (fun c2 => ?_) (fun c2 => ?_)
  · replace h := sf_t c2 h
    refine lv_iconst (v := 1) hx hb dX7_value_13 (by decide) ?_
    exact BH_14  _ _ _ h _ _ _ hP hD hS (lv_sub hl [0, 1] rfl)
  · replace h := sf_f c2 h
    refine lv_iconst (v := 0) hx hb dX7_value_9 (by decide) ?_
    refine lv_goto (tgt := 14) hx hb dX7_value_10 (by decide) ?_
    exact BH_14  _ _ _ h _ _ _ hP hD hS (lv_sub hl [0, 1] rfl)
def BX7_slopeOf_67 (Mformulas : Nat → Int32) (Mroot : Nat → Int32) (Mkind : Nat → Int32) (Mone : Nat → Int32) (Mother : Nat → Int32) (Mvalue : Nat → Int64) (v1 : Int32) (v2 : Int32) (K : Int32 → (Nat → Int64) → Option (Int64 × (Nat → Int64))) (E274 : (Nat → Int64) → Option (Int64 × (Nat → Int64))) (v3 : Int32) (s1 : Int32) (s2 : Int64) (Mslope : Nat → Int64) : Option (Int64 × (Nat → Int64)) := gi s1 64 (K (v3 + 1) (vp_updL Mslope (s1.toNatClampNeg) s2))
def BX7_slopeOf_66 (Mformulas : Nat → Int32) (Mroot : Nat → Int32) (Mkind : Nat → Int32) (Mone : Nat → Int32) (Mother : Nat → Int32) (Mvalue : Nat → Int64) (v1 : Int32) (v2 : Int32) (K : Int32 → (Nat → Int64) → Option (Int64 × (Nat → Int64))) (E274 : (Nat → Int64) → Option (Int64 × (Nat → Int64))) (v3 : Int32) (s1 : Int32) (Mslope : Nat → Int64) : Option (Int64 × (Nat → Int64)) := BX7_slopeOf_67 Mformulas Mroot Mkind Mone Mother Mvalue v1 v2 (K) E274 v3 s1 0 Mslope
def BX7_slopeOf_40 (Mformulas : Nat → Int32) (Mroot : Nat → Int32) (Mkind : Nat → Int32) (Mone : Nat → Int32) (Mother : Nat → Int32) (Mvalue : Nat → Int64) (v1 : Int32) (v2 : Int32) (K : Int32 → (Nat → Int64) → Option (Int64 × (Nat → Int64))) (E274 : (Nat → Int64) → Option (Int64 × (Nat → Int64))) (v3 : Int32) (v4 : Int32) (v5 : Int32) (Mslope : Nat → Int64) : Option (Int64 × (Nat → Int64)) := (if v5 = 1 then gi v4 576 ((if (Mone v4.toNatClampNeg) = v2 then BX7_slopeOf_67 Mformulas Mroot Mkind Mone Mother Mvalue v1 v2 (K) E274 v3 v3 1 Mslope else BX7_slopeOf_66 Mformulas Mroot Mkind Mone Mother Mvalue v1 v2 (K) E274 v3 v3 Mslope)) else BX7_slopeOf_66 Mformulas Mroot Mkind Mone Mother Mvalue v1 v2 (K) E274 v3 v3 Mslope)
def BX7_slopeOf_142 (Mformulas : Nat → Int32) (Mroot : Nat → Int32) (Mkind : Nat → Int32) (Mone : Nat → Int32) (Mother : Nat → Int32) (Mvalue : Nat → Int64) (v1 : Int32) (v2 : Int32) (K : Int32 → (Nat → Int64) → Option (Int64 × (Nat → Int64))) (E274 : (Nat → Int64) → Option (Int64 × (Nat → Int64))) (v3 : Int32) (s1 : Int32) (s2 : Int64) (Mslope : Nat → Int64) : Option (Int64 × (Nat → Int64)) := gi s1 64 (K (v3 + 1) (vp_updL Mslope (s1.toNatClampNeg) s2))
def LX7_slopeOf_2 (Mformulas : Nat → Int32) (Mroot : Nat → Int32) (Mkind : Nat → Int32) (Mone : Nat → Int32) (Mother : Nat → Int32) (Mvalue : Nat → Int64) (v1 : Int32) (v2 : Int32) (E274 : (Nat → Int64) → Option (Int64 × (Nat → Int64))) : Nat → Int32 → (Nat → Int64) → Option (Int64 × (Nat → Int64))
  | 0, _, _ => none
  | fuel + 1, v3, Mslope => gi v1 9 ((if (Mformulas v1.toNatClampNeg) ≤ v3 then E274 Mslope else gi ((64 * v1) + v3) 576 ((if (Mkind ((64 * v1) + v3).toNatClampNeg) = 0 then BX7_slopeOf_40 Mformulas Mroot Mkind Mone Mother Mvalue v1 v2 (LX7_slopeOf_2 Mformulas Mroot Mkind Mone Mother Mvalue v1 v2 E274 fuel) E274 v3 ((64 * v1) + v3) (Mkind ((64 * v1) + v3).toNatClampNeg) Mslope else (if (Mkind ((64 * v1) + v3).toNatClampNeg) = 1 then BX7_slopeOf_40 Mformulas Mroot Mkind Mone Mother Mvalue v1 v2 (LX7_slopeOf_2 Mformulas Mroot Mkind Mone Mother Mvalue v1 v2 E274 fuel) E274 v3 ((64 * v1) + v3) (Mkind ((64 * v1) + v3).toNatClampNeg) Mslope else (if (Mkind ((64 * v1) + v3).toNatClampNeg) = 5 then gi ((64 * v1) + v3) 576 ((if (Mother ((64 * v1) + v3).toNatClampNeg) = 0 then BX7_slopeOf_142 Mformulas Mroot Mkind Mone Mother Mvalue v1 v2 (LX7_slopeOf_2 Mformulas Mroot Mkind Mone Mother Mvalue v1 v2 E274 fuel) E274 v3 v3 0 Mslope else gi ((64 * v1) + v3) 576 (gi ((64 * v1) + v3) 576 (gi (Mone ((64 * v1) + v3).toNatClampNeg) 64 (gi ((64 * v1) + v3) 576 (bnd1 (fX7_power_ (Mvalue (Mone ((64 * v1) + v3).toNatClampNeg).toNatClampNeg) ((Mother ((64 * v1) + v3).toNatClampNeg) - 1)) (fun r34 => gi ((64 * v1) + v3) 576 (gi (Mone ((64 * v1) + v3).toNatClampNeg) 64 (BX7_slopeOf_142 Mformulas Mroot Mkind Mone Mother Mvalue v1 v2 (LX7_slopeOf_2 Mformulas Mroot Mkind Mone Mother Mvalue v1 v2 E274 fuel) E274 v3 v3 ((((Mother ((64 * v1) + v3).toNatClampNeg).toInt64) * r34) * (Mslope (Mone ((64 * v1) + v3).toNatClampNeg).toNatClampNeg)) Mslope))))))))) else (if (Mkind ((64 * v1) + v3).toNatClampNeg) = 6 then gi ((64 * v1) + v3) 576 (gi (Mone ((64 * v1) + v3).toNatClampNeg) 64 (gi v3 64 (LX7_slopeOf_2 Mformulas Mroot Mkind Mone Mother Mvalue v1 v2 E274 fuel (v3 + 1) (vp_updL Mslope (v3.toNatClampNeg) (-(Mslope (Mone ((64 * v1) + v3).toNatClampNeg).toNatClampNeg)))))) else gi ((64 * v1) + v3) 576 (gi (Mone ((64 * v1) + v3).toNatClampNeg) 64 (gi ((64 * v1) + v3) 576 (gi (Mother ((64 * v1) + v3).toNatClampNeg) 64 ((if (Mkind ((64 * v1) + v3).toNatClampNeg) = 2 then gi v3 64 (LX7_slopeOf_2 Mformulas Mroot Mkind Mone Mother Mvalue v1 v2 E274 fuel (v3 + 1) (vp_updL Mslope (v3.toNatClampNeg) ((Mslope (Mone ((64 * v1) + v3).toNatClampNeg).toNatClampNeg) + (Mslope (Mother ((64 * v1) + v3).toNatClampNeg).toNatClampNeg)))) else (if (Mkind ((64 * v1) + v3).toNatClampNeg) = 3 then gi v3 64 (LX7_slopeOf_2 Mformulas Mroot Mkind Mone Mother Mvalue v1 v2 E274 fuel (v3 + 1) (vp_updL Mslope (v3.toNatClampNeg) ((Mslope (Mone ((64 * v1) + v3).toNatClampNeg).toNatClampNeg) - (Mslope (Mother ((64 * v1) + v3).toNatClampNeg).toNatClampNeg)))) else gi ((64 * v1) + v3) 576 (gi (Mone ((64 * v1) + v3).toNatClampNeg) 64 (gi ((64 * v1) + v3) 576 (gi (Mother ((64 * v1) + v3).toNatClampNeg) 64 (gi v3 64 (LX7_slopeOf_2 Mformulas Mroot Mkind Mone Mother Mvalue v1 v2 E274 fuel (v3 + 1) (vp_updL Mslope (v3.toNatClampNeg) (((Mvalue (Mone ((64 * v1) + v3).toNatClampNeg).toNatClampNeg) * (Mslope (Mother ((64 * v1) + v3).toNatClampNeg).toNatClampNeg)) + ((Mslope (Mone ((64 * v1) + v3).toNatClampNeg).toNatClampNeg) * (Mvalue (Mother ((64 * v1) + v3).toNatClampNeg).toNatClampNeg))))))))))))))))))))))
def fX7_slopeOf (v1 : Int32) (v2 : Int32) (Mformulas : Nat → Int32) (Mroot : Nat → Int32) (Mkind : Nat → Int32) (Mone : Nat → Int32) (Mother : Nat → Int32) (Mvalue : Nat → Int64) (Mslope : Nat → Int64) : Option (Int64 × (Nat → Int64)) := LX7_slopeOf_2 Mformulas Mroot Mkind Mone Mother Mvalue v1 v2 (fun (Mslope : Nat → Int64) => gi v1 9 (gi (Mroot v1.toNatClampNeg) 64 (some (Mslope (Mroot v1.toNatClampNeg).toNatClampNeg, Mslope)))) 1000 0 Mslope
abbrev rmX7_slopeOf : Room := { frames := 1, cells := 0, slots := 0, locals := 25 }
set_option maxHeartbeats 4000000 in
set_option maxRecDepth 100000 in
theorem met_X7_slopeOf (l : Launch) (D : va_G) (k : Nat → ClassId)  (aM : Nat → Nat) (sz : Nat) (Mestimate : Nat → Int32) (Munit : Nat → Int32) (Msort : Nat → Int32) (Mwidth : Nat → Int32) (Mmany : Nat → Int32) (Mreading : Nat → Int32) (Mvariance : Nat → Int32) (Mcovariance : Nat → Int32) (Mline : Nat → Int32) (Mformulas : Nat → Int32) (Mroot : Nat → Int32) (Mkind : Nat → Int32) (Mone : Nat → Int32) (Mother : Nat → Int32) (Msigns : Nat → Int32) (Mplace : Nat → Int32) (MleftOf : Nat → Int32) (MrightOf : Nat → Int32) (Mtype : Nat → Int32) (Msum : Nat → Int32) (Msign : Nat → Int32) (MsignAt : Nat → Int32) (Mproduct : Nat → Int32) (Mvalue : Nat → Int64) (Mslope : Nat → Int64) (Mexponent : Nat → Int32) (Mdrawn : Nat → Int32) (Mslopes : Nat → Int64) (Mfrom : Nat → Int32) (Mfactor : Nat → Int32) (Mthrown : Int32) (Mlength : Int32) (Mmodels : Int32) (Mopen : Int32) (Mat : Int32) (Mrows : Int32) (Mx : Int32) (v1 : Int32) (v2 : Int32) (r : Int64) (RMslope : Nat → Int64) (h : fX7_slopeOf v1 v2 Mformulas Mroot Mkind Mone Mother Mvalue Mslope = some (r, RMslope)) : Met l yX7_slopeOf wsX7_slopeOf rmX7_slopeOf (va_Pc [.ref (aM 0), .int v1, .int v2] (PreW D k (wM k aM Mestimate Munit Msort Mwidth Mmany Mreading Mvariance Mcovariance Mline Mformulas Mroot Mkind Mone Mother Msigns Mplace MleftOf MrightOf Mtype Msum Msign MsignAt Mproduct Mvalue Mslope Mexponent Mdrawn Mslopes Mfrom Mfactor Mthrown Mlength Mmodels Mopen Mat Mrows Mx) sz)) (va_Ql (fun r9 (_ : Unit) => r9 = r) (fun _ t => PostW D k (va_A (wM k aM Mestimate Munit Msort Mwidth Mmany Mreading Mvariance Mcovariance Mline Mformulas Mroot Mkind Mone Mother Msigns Mplace MleftOf MrightOf Mtype Msum Msign MsignAt Mproduct Mvalue Mslope Mexponent Mdrawn Mslopes Mfrom Mfactor Mthrown Mlength Mmodels Mopen Mat Mrows Mx) sz) (wM k aM Mestimate Munit Msort Mwidth Mmany Mreading Mvariance Mcovariance Mline Mformulas Mroot Mkind Mone Mother Msigns Mplace MleftOf MrightOf Mtype Msum Msign MsignAt Mproduct Mvalue RMslope Mexponent Mdrawn Mslopes Mfrom Mfactor Mthrown Mlength Mmodels Mopen Mat Mrows Mx) t) (va_A (wM k aM Mestimate Munit Msort Mwidth Mmany Mreading Mvariance Mcovariance Mline Mformulas Mroot Mkind Mone Mother Msigns Mplace MleftOf MrightOf Mtype Msum Msign MsignAt Mproduct Mvalue Mslope Mexponent Mdrawn Mslopes Mfrom Mfactor Mthrown Mlength Mmodels Mopen Mat Mrows Mx) sz)) 0 0 (va_A (wM k aM Mestimate Munit Msort Mwidth Mmany Mreading Mvariance Mcovariance Mline Mformulas Mroot Mkind Mone Mother Msigns Mplace MleftOf MrightOf Mtype Msum Msign MsignAt Mproduct Mvalue Mslope Mexponent Mdrawn Mslopes Mfrom Mfactor Mthrown Mlength Mmodels Mopen Mat Mrows Mx) sz) := by
  refine Met.ofW (cc := cX7_slopeOf) (maxL := 10) (ret := (some .long)) (by decide) rfl ?_
  intro p e s m args below meth c s₁ B hml hv
  obtain ⟨hav, hsz, hP, hK, hD0⟩ := hv
  have hx := B.exec
  have hb := B.bytes
  have hr := B.returns
  have hts := atoms_spec (ws := wsX7_slopeOf) B.pre
  have hown : s.vm.findClass RX7 = some m.cls := findClass_of_methodNamed B.named
  have hlocks := B.notSynchronized
  subst hsz
  have hD := hD0.self (sz := s.heap.size)
  clear hD0
  generalize hAe : va_A (wM k aM Mestimate Munit Msort Mwidth Mmany Mreading Mvariance Mcovariance Mline Mformulas Mroot Mkind Mone Mother Msigns Mplace MleftOf MrightOf Mtype Msum Msign MsignAt Mproduct Mvalue Mslope Mexponent Mdrawn Mslopes Mfrom Mfactor Mthrown Mlength Mmodels Mopen Mat Mrows Mx) s.heap.size = A at hD ⊢
  have hA : ∀ q : Nat, s.heap.size ≤ q → A q := fun q h => by rw [← hAe]; exact Or.inr h
  have hS : va_S A s.heap s.heap [] := va_S.rf
  have hl := lv_entry ([.ref (aM 0), .int v1, .int v2]) (n := 10) (Nat.le_of_ble_eq_true rfl)
  rw [show entryFrame m args 10 = entryFrame m ([.ref (aM 0), .int v1, .int v2] : List Value).toArray 10 from by rw [hav], lg_entry_eq]
  generalize (lg_sl ([.ref (aM 0), .int v1, .int v2]) ++ List.replicate (10 - (lg_sl ([.ref (aM 0), .int v1, .int v2])).length) Slot.unset).toArray = ls at hl ⊢
  replace hl : lv_has ls 10 [(0, .ref (aM 0)), (1, .int v1), (2, .int v2)] := hl
  have f37 := hts (.fieldLink RX7 37 "UncertainBookModel" "formulas" "[I") (by decide +kernel)
  have f40 := hts (.fieldLink RX7 40 "UncertainBookModel" "root" "[I") (by decide +kernel)
  have f43 := hts (.fieldLink RX7 43 "UncertainBookModel" "kind" "[I") (by decide +kernel)
  have f46 := hts (.fieldLink RX7 46 "UncertainBookModel" "one" "[I") (by decide +kernel)
  have f49 := hts (.fieldLink RX7 49 "UncertainBookModel" "other" "[I") (by decide +kernel)
  have f79 := hts (.fieldLink RX7 79 "UncertainBookModel" "value" "[J") (by decide +kernel)
  have f83 := hts (.fieldLink RX7 83 "UncertainBookModel" "slope" "[J") (by decide +kernel)
  have iX7 : ∀ w ∈ u_ws RX7 TX7 37, w ∈ wsX7_slopeOf := by decide +kernel
  refine w_q (fun Q hQ => ?_)
  unfold fX7_slopeOf at h
  show W p l e rmX7_slopeOf s m args below meth c s.heap [] 0 0 Q (F0 m 0 ls [])
  have BH_67 : ∀ (K : Int32 → (Nat → Int64) → Option (Int64 × (Nat → Int64))) (hKK : ∀ (v3 : Int32) (Mslope : Nat → Int64), K v3 Mslope = some (r, RMslope) → ∀ (H : Heap) (locs : List Loc) (ls : Array Slot), va_P D vwCl (wM k aM Mestimate Munit Msort Mwidth Mmany Mreading Mvariance Mcovariance Mline Mformulas Mroot Mkind Mone Mother Msigns Mplace MleftOf MrightOf Mtype Msum Msign MsignAt Mproduct Mvalue Mslope Mexponent Mdrawn Mslopes Mfrom Mfactor Mthrown Mlength Mmodels Mopen Mat Mrows Mx) H → va_D A (wM k aM Mestimate Munit Msort Mwidth Mmany Mreading Mvariance Mcovariance Mline Mformulas Mroot Mkind Mone Mother Msigns Mplace MleftOf MrightOf Mtype Msum Msign MsignAt Mproduct Mvalue Mslope Mexponent Mdrawn Mslopes Mfrom Mfactor Mthrown Mlength Mmodels Mopen Mat Mrows Mx) → va_S A s.heap H locs → lv_has ls 10 [(0, .ref (aM 0)), (1, .int v1), (2, .int v2), (3, .int v3)] → W p l e rmX7_slopeOf s m args below meth c H locs 0 0 Q (F0 m 2 ls [])) (E274 : (Nat → Int64) → Option (Int64 × (Nat → Int64))) (hE274 : ∀ (Mslope : Nat → Int64), E274 Mslope = some (r, RMslope) → ∀ (H : Heap) (locs : List Loc) (ls : Array Slot), va_P D vwCl (wM k aM Mestimate Munit Msort Mwidth Mmany Mreading Mvariance Mcovariance Mline Mformulas Mroot Mkind Mone Mother Msigns Mplace MleftOf MrightOf Mtype Msum Msign MsignAt Mproduct Mvalue Mslope Mexponent Mdrawn Mslopes Mfrom Mfactor Mthrown Mlength Mmodels Mopen Mat Mrows Mx) H → va_D A (wM k aM Mestimate Munit Msort Mwidth Mmany Mreading Mvariance Mcovariance Mline Mformulas Mroot Mkind Mone Mother Msigns Mplace MleftOf MrightOf Mtype Msum Msign MsignAt Mproduct Mvalue Mslope Mexponent Mdrawn Mslopes Mfrom Mfactor Mthrown Mlength Mmodels Mopen Mat Mrows Mx) → va_S A s.heap H locs → lv_has ls 10 [(0, .ref (aM 0)), (1, .int v1)] → W p l e rmX7_slopeOf s m args below meth c H locs 0 0 Q (F0 m 274 ls [])) (v3 : Int32) (s1 : Int32) (s2 : Int64) (Mslope : Nat → Int64), BX7_slopeOf_67 Mformulas Mroot Mkind Mone Mother Mvalue v1 v2 K E274 v3 s1 s2 Mslope = some (r, RMslope) → ∀ (H : Heap) (locs : List Loc) (ls : Array Slot), va_P D vwCl (wM k aM Mestimate Munit Msort Mwidth Mmany Mreading Mvariance Mcovariance Mline Mformulas Mroot Mkind Mone Mother Msigns Mplace MleftOf MrightOf Mtype Msum Msign MsignAt Mproduct Mvalue Mslope Mexponent Mdrawn Mslopes Mfrom Mfactor Mthrown Mlength Mmodels Mopen Mat Mrows Mx) H → va_D A (wM k aM Mestimate Munit Msort Mwidth Mmany Mreading Mvariance Mcovariance Mline Mformulas Mroot Mkind Mone Mother Msigns Mplace MleftOf MrightOf Mtype Msum Msign MsignAt Mproduct Mvalue Mslope Mexponent Mdrawn Mslopes Mfrom Mfactor Mthrown Mlength Mmodels Mopen Mat Mrows Mx) → va_S A s.heap H locs → lv_has ls 10 [(0, .ref (aM 0)), (1, .int v1), (2, .int v2), (3, .int v3)] → W p l e rmX7_slopeOf s m args below meth c H locs 0 0 Q (F0 m 67 ls [.long s2, .int s1, .ref (aM 25)]) := by
    intro K hKK E274 hE274 v3 s1 s2 Mslope h H locs ls hP hD hS hl
    unfold BX7_slopeOf_67 at h
    obtain ⟨hi6, h⟩ := gi_inv h
    refine va_last hx hb hK hP hD hS 25 1 rfl rfl hi6 dX7_slopeOf_67 (fun H locs hP hD hS => ?_)
    replace hP : va_P D vwCl (wM k aM Mestimate Munit Msort Mwidth Mmany Mreading Mvariance Mcovariance Mline Mformulas Mroot Mkind Mone Mother Msigns Mplace MleftOf MrightOf Mtype Msum Msign MsignAt Mproduct Mvalue (vp_updL Mslope (s1.toNatClampNeg) s2) Mexponent Mdrawn Mslopes Mfrom Mfactor Mthrown Mlength Mmodels Mopen Mat Mrows Mx) H := hP
    replace hD : va_D A (wM k aM Mestimate Munit Msort Mwidth Mmany Mreading Mvariance Mcovariance Mline Mformulas Mroot Mkind Mone Mother Msigns Mplace MleftOf MrightOf Mtype Msum Msign MsignAt Mproduct Mvalue (vp_updL Mslope (s1.toNatClampNeg) s2) Mexponent Mdrawn Mslopes Mfrom Mfactor Mthrown Mlength Mmodels Mopen Mat Mrows Mx) := hD
    refine lv_goto (tgt := 268) hx hb dX7_slopeOf_68 (by decide) ?_
    refine lv_iinc (v := v3 + 1) (lv' := [(3, .int (v3 + 1)), (0, .ref (aM 0)), (1, .int v1), (2, .int v2)]) hx hb dX7_slopeOf_268 hl (k := 3) rfl rfl (by decide) rfl (fun ls hl => ?_)
    refine lv_goto (tgt := 2) hx hb dX7_slopeOf_271 (by decide) ?_
    exact hKK _ _ h _ _ _ hP hD hS (lv_sub hl [1, 2, 3, 0] rfl)
  have BH_66 : ∀ (K : Int32 → (Nat → Int64) → Option (Int64 × (Nat → Int64))) (hKK : ∀ (v3 : Int32) (Mslope : Nat → Int64), K v3 Mslope = some (r, RMslope) → ∀ (H : Heap) (locs : List Loc) (ls : Array Slot), va_P D vwCl (wM k aM Mestimate Munit Msort Mwidth Mmany Mreading Mvariance Mcovariance Mline Mformulas Mroot Mkind Mone Mother Msigns Mplace MleftOf MrightOf Mtype Msum Msign MsignAt Mproduct Mvalue Mslope Mexponent Mdrawn Mslopes Mfrom Mfactor Mthrown Mlength Mmodels Mopen Mat Mrows Mx) H → va_D A (wM k aM Mestimate Munit Msort Mwidth Mmany Mreading Mvariance Mcovariance Mline Mformulas Mroot Mkind Mone Mother Msigns Mplace MleftOf MrightOf Mtype Msum Msign MsignAt Mproduct Mvalue Mslope Mexponent Mdrawn Mslopes Mfrom Mfactor Mthrown Mlength Mmodels Mopen Mat Mrows Mx) → va_S A s.heap H locs → lv_has ls 10 [(0, .ref (aM 0)), (1, .int v1), (2, .int v2), (3, .int v3)] → W p l e rmX7_slopeOf s m args below meth c H locs 0 0 Q (F0 m 2 ls [])) (E274 : (Nat → Int64) → Option (Int64 × (Nat → Int64))) (hE274 : ∀ (Mslope : Nat → Int64), E274 Mslope = some (r, RMslope) → ∀ (H : Heap) (locs : List Loc) (ls : Array Slot), va_P D vwCl (wM k aM Mestimate Munit Msort Mwidth Mmany Mreading Mvariance Mcovariance Mline Mformulas Mroot Mkind Mone Mother Msigns Mplace MleftOf MrightOf Mtype Msum Msign MsignAt Mproduct Mvalue Mslope Mexponent Mdrawn Mslopes Mfrom Mfactor Mthrown Mlength Mmodels Mopen Mat Mrows Mx) H → va_D A (wM k aM Mestimate Munit Msort Mwidth Mmany Mreading Mvariance Mcovariance Mline Mformulas Mroot Mkind Mone Mother Msigns Mplace MleftOf MrightOf Mtype Msum Msign MsignAt Mproduct Mvalue Mslope Mexponent Mdrawn Mslopes Mfrom Mfactor Mthrown Mlength Mmodels Mopen Mat Mrows Mx) → va_S A s.heap H locs → lv_has ls 10 [(0, .ref (aM 0)), (1, .int v1)] → W p l e rmX7_slopeOf s m args below meth c H locs 0 0 Q (F0 m 274 ls [])) (v3 : Int32) (s1 : Int32) (Mslope : Nat → Int64), BX7_slopeOf_66 Mformulas Mroot Mkind Mone Mother Mvalue v1 v2 K E274 v3 s1 Mslope = some (r, RMslope) → ∀ (H : Heap) (locs : List Loc) (ls : Array Slot), va_P D vwCl (wM k aM Mestimate Munit Msort Mwidth Mmany Mreading Mvariance Mcovariance Mline Mformulas Mroot Mkind Mone Mother Msigns Mplace MleftOf MrightOf Mtype Msum Msign MsignAt Mproduct Mvalue Mslope Mexponent Mdrawn Mslopes Mfrom Mfactor Mthrown Mlength Mmodels Mopen Mat Mrows Mx) H → va_D A (wM k aM Mestimate Munit Msort Mwidth Mmany Mreading Mvariance Mcovariance Mline Mformulas Mroot Mkind Mone Mother Msigns Mplace MleftOf MrightOf Mtype Msum Msign MsignAt Mproduct Mvalue Mslope Mexponent Mdrawn Mslopes Mfrom Mfactor Mthrown Mlength Mmodels Mopen Mat Mrows Mx) → va_S A s.heap H locs → lv_has ls 10 [(0, .ref (aM 0)), (1, .int v1), (2, .int v2), (3, .int v3)] → W p l e rmX7_slopeOf s m args below meth c H locs 0 0 Q (F0 m 66 ls [.int s1, .ref (aM 25)]) := by
    intro K hKK E274 hE274 v3 s1 Mslope h H locs ls hP hD hS hl
    unfold BX7_slopeOf_66 at h
    refine lv_lconst (v := 0) hx hb dX7_slopeOf_66 (by decide) ?_
    exact BH_67 _ hKK _ hE274 _ _ _ _ h _ _ _ hP hD hS (lv_sub hl [0, 1, 2, 3] rfl)
  have BH_40 : ∀ (K : Int32 → (Nat → Int64) → Option (Int64 × (Nat → Int64))) (hKK : ∀ (v3 : Int32) (Mslope : Nat → Int64), K v3 Mslope = some (r, RMslope) → ∀ (H : Heap) (locs : List Loc) (ls : Array Slot), va_P D vwCl (wM k aM Mestimate Munit Msort Mwidth Mmany Mreading Mvariance Mcovariance Mline Mformulas Mroot Mkind Mone Mother Msigns Mplace MleftOf MrightOf Mtype Msum Msign MsignAt Mproduct Mvalue Mslope Mexponent Mdrawn Mslopes Mfrom Mfactor Mthrown Mlength Mmodels Mopen Mat Mrows Mx) H → va_D A (wM k aM Mestimate Munit Msort Mwidth Mmany Mreading Mvariance Mcovariance Mline Mformulas Mroot Mkind Mone Mother Msigns Mplace MleftOf MrightOf Mtype Msum Msign MsignAt Mproduct Mvalue Mslope Mexponent Mdrawn Mslopes Mfrom Mfactor Mthrown Mlength Mmodels Mopen Mat Mrows Mx) → va_S A s.heap H locs → lv_has ls 10 [(0, .ref (aM 0)), (1, .int v1), (2, .int v2), (3, .int v3)] → W p l e rmX7_slopeOf s m args below meth c H locs 0 0 Q (F0 m 2 ls [])) (E274 : (Nat → Int64) → Option (Int64 × (Nat → Int64))) (hE274 : ∀ (Mslope : Nat → Int64), E274 Mslope = some (r, RMslope) → ∀ (H : Heap) (locs : List Loc) (ls : Array Slot), va_P D vwCl (wM k aM Mestimate Munit Msort Mwidth Mmany Mreading Mvariance Mcovariance Mline Mformulas Mroot Mkind Mone Mother Msigns Mplace MleftOf MrightOf Mtype Msum Msign MsignAt Mproduct Mvalue Mslope Mexponent Mdrawn Mslopes Mfrom Mfactor Mthrown Mlength Mmodels Mopen Mat Mrows Mx) H → va_D A (wM k aM Mestimate Munit Msort Mwidth Mmany Mreading Mvariance Mcovariance Mline Mformulas Mroot Mkind Mone Mother Msigns Mplace MleftOf MrightOf Mtype Msum Msign MsignAt Mproduct Mvalue Mslope Mexponent Mdrawn Mslopes Mfrom Mfactor Mthrown Mlength Mmodels Mopen Mat Mrows Mx) → va_S A s.heap H locs → lv_has ls 10 [(0, .ref (aM 0)), (1, .int v1)] → W p l e rmX7_slopeOf s m args below meth c H locs 0 0 Q (F0 m 274 ls [])) (v3 : Int32) (v4 : Int32) (v5 : Int32) (Mslope : Nat → Int64), BX7_slopeOf_40 Mformulas Mroot Mkind Mone Mother Mvalue v1 v2 K E274 v3 v4 v5 Mslope = some (r, RMslope) → ∀ (H : Heap) (locs : List Loc) (ls : Array Slot), va_P D vwCl (wM k aM Mestimate Munit Msort Mwidth Mmany Mreading Mvariance Mcovariance Mline Mformulas Mroot Mkind Mone Mother Msigns Mplace MleftOf MrightOf Mtype Msum Msign MsignAt Mproduct Mvalue Mslope Mexponent Mdrawn Mslopes Mfrom Mfactor Mthrown Mlength Mmodels Mopen Mat Mrows Mx) H → va_D A (wM k aM Mestimate Munit Msort Mwidth Mmany Mreading Mvariance Mcovariance Mline Mformulas Mroot Mkind Mone Mother Msigns Mplace MleftOf MrightOf Mtype Msum Msign MsignAt Mproduct Mvalue Mslope Mexponent Mdrawn Mslopes Mfrom Mfactor Mthrown Mlength Mmodels Mopen Mat Mrows Mx) → va_S A s.heap H locs → lv_has ls 10 [(0, .ref (aM 0)), (1, .int v1), (2, .int v2), (3, .int v3), (4, .int v4), (5, .int v5)] → W p l e rmX7_slopeOf s m args below meth c H locs 0 0 Q (F0 m 40 ls []) := by
    intro K hKK E274 hE274 v3 v4 v5 Mslope h H locs ls hP hD hS hl
    unfold BX7_slopeOf_40 at h
    refine lv_aload_n hx hb dX7_slopeOf_40 rfl (lv_at hl 0 rfl) ?_
    refine va_get (D := D) (ci := 7) (v := .ref (aM 25)) (C := RX7) (T := TX7) (N := 37) hx hb hts iX7 hown hK hP 0 rfl rfl 29 (by decide) f83 (fun _ h9 => h9) rfl dX7_slopeOf_41 ?_
    refine lv_iload_n hx hb dX7_slopeOf_44 rfl (lv_at hl 3 rfl) ?_
    refine lv_iload hx hb dX7_slopeOf_45 (lv_at hl 5 rfl) ?_
    refine lv_iconst (v := 1) hx hb dX7_slopeOf_47 (by decide) ?_
    refine lv_icmp_ne (tgt := 66) hx hb dX7_slopeOf_48 (by decide) (fun c5 => ?_) (fun c5 => ?_)
    · replace h := sf_f c5 h
      exact BH_66 _ hKK _ hE274 _ _ _ h _ _ _ hP hD hS (lv_sub hl [0, 1, 2, 3] rfl)
    · replace h := sf_t c5 h
      refine lv_aload_n hx hb dX7_slopeOf_51 rfl (lv_at hl 0 rfl) ?_
      refine va_get (D := D) (ci := 7) (v := .ref (aM 13)) (C := RX7) (T := TX7) (N := 37) hx hb hts iX7 hown hK hP 0 rfl rfl 15 (by decide) f46 (fun _ h9 => h9) rfl dX7_slopeOf_52 ?_
      refine lv_iload hx hb dX7_slopeOf_55 (lv_at hl 4 rfl) ?_
      obtain ⟨hi7, h⟩ := gi_inv h
      refine va_iald hx hb hK hP 13 0 rfl rfl hi7 dX7_slopeOf_57 ?_
      refine lv_iload_n hx hb dX7_slopeOf_58 rfl (lv_at hl 2 rfl) ?_
      refine lv_icmp_ne (tgt := 66) hx hb dX7_slopeOf_59 (by decide) (fun c8 => ?_) (fun c8 => ?_)
      · replace h := sf_f c8 h
        exact BH_66 _ hKK _ hE274 _ _ _ h _ _ _ hP hD hS (lv_sub hl [0, 1, 2, 3] rfl)
      · replace h := sf_t c8 h
        refine lv_lconst (v := 1) hx hb dX7_slopeOf_62 (by decide) ?_
        refine lv_goto (tgt := 67) hx hb dX7_slopeOf_63 (by decide) ?_
        exact BH_67 _ hKK _ hE274 _ _ _ _ h _ _ _ hP hD hS (lv_sub hl [0, 1, 2, 3] rfl)
  have BH_142 : ∀ (K : Int32 → (Nat → Int64) → Option (Int64 × (Nat → Int64))) (hKK : ∀ (v3 : Int32) (Mslope : Nat → Int64), K v3 Mslope = some (r, RMslope) → ∀ (H : Heap) (locs : List Loc) (ls : Array Slot), va_P D vwCl (wM k aM Mestimate Munit Msort Mwidth Mmany Mreading Mvariance Mcovariance Mline Mformulas Mroot Mkind Mone Mother Msigns Mplace MleftOf MrightOf Mtype Msum Msign MsignAt Mproduct Mvalue Mslope Mexponent Mdrawn Mslopes Mfrom Mfactor Mthrown Mlength Mmodels Mopen Mat Mrows Mx) H → va_D A (wM k aM Mestimate Munit Msort Mwidth Mmany Mreading Mvariance Mcovariance Mline Mformulas Mroot Mkind Mone Mother Msigns Mplace MleftOf MrightOf Mtype Msum Msign MsignAt Mproduct Mvalue Mslope Mexponent Mdrawn Mslopes Mfrom Mfactor Mthrown Mlength Mmodels Mopen Mat Mrows Mx) → va_S A s.heap H locs → lv_has ls 10 [(0, .ref (aM 0)), (1, .int v1), (2, .int v2), (3, .int v3)] → W p l e rmX7_slopeOf s m args below meth c H locs 0 0 Q (F0 m 2 ls [])) (E274 : (Nat → Int64) → Option (Int64 × (Nat → Int64))) (hE274 : ∀ (Mslope : Nat → Int64), E274 Mslope = some (r, RMslope) → ∀ (H : Heap) (locs : List Loc) (ls : Array Slot), va_P D vwCl (wM k aM Mestimate Munit Msort Mwidth Mmany Mreading Mvariance Mcovariance Mline Mformulas Mroot Mkind Mone Mother Msigns Mplace MleftOf MrightOf Mtype Msum Msign MsignAt Mproduct Mvalue Mslope Mexponent Mdrawn Mslopes Mfrom Mfactor Mthrown Mlength Mmodels Mopen Mat Mrows Mx) H → va_D A (wM k aM Mestimate Munit Msort Mwidth Mmany Mreading Mvariance Mcovariance Mline Mformulas Mroot Mkind Mone Mother Msigns Mplace MleftOf MrightOf Mtype Msum Msign MsignAt Mproduct Mvalue Mslope Mexponent Mdrawn Mslopes Mfrom Mfactor Mthrown Mlength Mmodels Mopen Mat Mrows Mx) → va_S A s.heap H locs → lv_has ls 10 [(0, .ref (aM 0)), (1, .int v1)] → W p l e rmX7_slopeOf s m args below meth c H locs 0 0 Q (F0 m 274 ls [])) (v3 : Int32) (s1 : Int32) (s2 : Int64) (Mslope : Nat → Int64), BX7_slopeOf_142 Mformulas Mroot Mkind Mone Mother Mvalue v1 v2 K E274 v3 s1 s2 Mslope = some (r, RMslope) → ∀ (H : Heap) (locs : List Loc) (ls : Array Slot), va_P D vwCl (wM k aM Mestimate Munit Msort Mwidth Mmany Mreading Mvariance Mcovariance Mline Mformulas Mroot Mkind Mone Mother Msigns Mplace MleftOf MrightOf Mtype Msum Msign MsignAt Mproduct Mvalue Mslope Mexponent Mdrawn Mslopes Mfrom Mfactor Mthrown Mlength Mmodels Mopen Mat Mrows Mx) H → va_D A (wM k aM Mestimate Munit Msort Mwidth Mmany Mreading Mvariance Mcovariance Mline Mformulas Mroot Mkind Mone Mother Msigns Mplace MleftOf MrightOf Mtype Msum Msign MsignAt Mproduct Mvalue Mslope Mexponent Mdrawn Mslopes Mfrom Mfactor Mthrown Mlength Mmodels Mopen Mat Mrows Mx) → va_S A s.heap H locs → lv_has ls 10 [(0, .ref (aM 0)), (1, .int v1), (2, .int v2), (3, .int v3)] → W p l e rmX7_slopeOf s m args below meth c H locs 0 0 Q (F0 m 142 ls [.long s2, .int s1, .ref (aM 25)]) := by
    intro K hKK E274 hE274 v3 s1 s2 Mslope h H locs ls hP hD hS hl
    unfold BX7_slopeOf_142 at h
    obtain ⟨hi37, h⟩ := gi_inv h
    refine va_last hx hb hK hP hD hS 25 1 rfl rfl hi37 dX7_slopeOf_142 (fun H locs hP hD hS => ?_)
    replace hP : va_P D vwCl (wM k aM Mestimate Munit Msort Mwidth Mmany Mreading Mvariance Mcovariance Mline Mformulas Mroot Mkind Mone Mother Msigns Mplace MleftOf MrightOf Mtype Msum Msign MsignAt Mproduct Mvalue (vp_updL Mslope (s1.toNatClampNeg) s2) Mexponent Mdrawn Mslopes Mfrom Mfactor Mthrown Mlength Mmodels Mopen Mat Mrows Mx) H := hP
    replace hD : va_D A (wM k aM Mestimate Munit Msort Mwidth Mmany Mreading Mvariance Mcovariance Mline Mformulas Mroot Mkind Mone Mother Msigns Mplace MleftOf MrightOf Mtype Msum Msign MsignAt Mproduct Mvalue (vp_updL Mslope (s1.toNatClampNeg) s2) Mexponent Mdrawn Mslopes Mfrom Mfactor Mthrown Mlength Mmodels Mopen Mat Mrows Mx) := hD
    refine lv_goto (tgt := 268) hx hb dX7_slopeOf_143 (by decide) ?_
    refine lv_iinc (v := v3 + 1) (lv' := [(3, .int (v3 + 1)), (0, .ref (aM 0)), (1, .int v1), (2, .int v2)]) hx hb dX7_slopeOf_268 hl (k := 3) rfl rfl (by decide) rfl (fun ls hl => ?_)
    refine lv_goto (tgt := 2) hx hb dX7_slopeOf_271 (by decide) ?_
    exact hKK _ _ h _ _ _ hP hD hS (lv_sub hl [1, 2, 3, 0] rfl)
  have LH_2 : ∀ (E274 : (Nat → Int64) → Option (Int64 × (Nat → Int64))) (hE274 : ∀ (Mslope : Nat → Int64), E274 Mslope = some (r, RMslope) → ∀ (H : Heap) (locs : List Loc) (ls : Array Slot), va_P D vwCl (wM k aM Mestimate Munit Msort Mwidth Mmany Mreading Mvariance Mcovariance Mline Mformulas Mroot Mkind Mone Mother Msigns Mplace MleftOf MrightOf Mtype Msum Msign MsignAt Mproduct Mvalue Mslope Mexponent Mdrawn Mslopes Mfrom Mfactor Mthrown Mlength Mmodels Mopen Mat Mrows Mx) H → va_D A (wM k aM Mestimate Munit Msort Mwidth Mmany Mreading Mvariance Mcovariance Mline Mformulas Mroot Mkind Mone Mother Msigns Mplace MleftOf MrightOf Mtype Msum Msign MsignAt Mproduct Mvalue Mslope Mexponent Mdrawn Mslopes Mfrom Mfactor Mthrown Mlength Mmodels Mopen Mat Mrows Mx) → va_S A s.heap H locs → lv_has ls 10 [(0, .ref (aM 0)), (1, .int v1)] → W p l e rmX7_slopeOf s m args below meth c H locs 0 0 Q (F0 m 274 ls [])) (n : Nat) (v3 : Int32) (Mslope : Nat → Int64), LX7_slopeOf_2 Mformulas Mroot Mkind Mone Mother Mvalue v1 v2 E274 n v3 Mslope = some (r, RMslope) → ∀ (H : Heap) (locs : List Loc) (ls : Array Slot), va_P D vwCl (wM k aM Mestimate Munit Msort Mwidth Mmany Mreading Mvariance Mcovariance Mline Mformulas Mroot Mkind Mone Mother Msigns Mplace MleftOf MrightOf Mtype Msum Msign MsignAt Mproduct Mvalue Mslope Mexponent Mdrawn Mslopes Mfrom Mfactor Mthrown Mlength Mmodels Mopen Mat Mrows Mx) H → va_D A (wM k aM Mestimate Munit Msort Mwidth Mmany Mreading Mvariance Mcovariance Mline Mformulas Mroot Mkind Mone Mother Msigns Mplace MleftOf MrightOf Mtype Msum Msign MsignAt Mproduct Mvalue Mslope Mexponent Mdrawn Mslopes Mfrom Mfactor Mthrown Mlength Mmodels Mopen Mat Mrows Mx) → va_S A s.heap H locs → lv_has ls 10 [(0, .ref (aM 0)), (1, .int v1), (2, .int v2), (3, .int v3)] → W p l e rmX7_slopeOf s m args below meth c H locs 0 0 Q (F0 m 2 ls []) := by
    intro E274 hE274 n
    induction n with
    | zero => intro v3 Mslope h; simp [LX7_slopeOf_2] at h
    | succ n ih =>
    intro v3 Mslope h H locs ls hP hD hS hl
    rw [LX7_slopeOf_2] at h
    refine lv_iload_n hx hb dX7_slopeOf_2 rfl (lv_at hl 3 rfl) ?_
    refine lv_aload_n hx hb dX7_slopeOf_3 rfl (lv_at hl 0 rfl) ?_
    refine va_get (D := D) (ci := 7) (v := .ref (aM 10)) (C := RX7) (T := TX7) (N := 37) hx hb hts iX7 hown hK hP 0 rfl rfl 12 (by decide) f37 (fun _ h9 => h9) rfl dX7_slopeOf_4 ?_
    refine lv_iload_n hx hb dX7_slopeOf_7 rfl (lv_at hl 1 rfl) ?_
    obtain ⟨hi1, h⟩ := gi_inv h
    refine va_iald hx hb hK hP 10 0 rfl rfl hi1 dX7_slopeOf_8 ?_
    refine lv_icmp_ge (tgt := 274) hx hb dX7_slopeOf_9 (by decide) (fun c2 => ?_) (fun c2 => ?_)
    · replace h := sf_t c2 h
      exact hE274 _ h _ _ _ hP hD hS (lv_sub hl [0, 1] rfl)
    · replace h := sf_f c2 h
      refine lv_bipush (v := 64) hx hb dX7_slopeOf_12 (by decide) ?_
      refine lv_iload_n hx hb dX7_slopeOf_14 rfl (lv_at hl 1 rfl) ?_
      refine lv_imul hx hb dX7_slopeOf_15 ?_
      refine lv_iload_n hx hb dX7_slopeOf_16 rfl (lv_at hl 3 rfl) ?_
      refine lv_iadd hx hb dX7_slopeOf_17 ?_
      refine lv_istore (lv' := [(4, .int ((64 * v1) + v3)), (0, .ref (aM 0)), (1, .int v1), (2, .int v2), (3, .int v3)]) hx hb dX7_slopeOf_18 hl (by decide) rfl (fun ls hl => ?_)
      refine lv_aload_n hx hb dX7_slopeOf_20 rfl (lv_at hl 1 rfl) ?_
      refine va_get (D := D) (ci := 7) (v := .ref (aM 12)) (C := RX7) (T := TX7) (N := 37) hx hb hts iX7 hown hK hP 0 rfl rfl 14 (by decide) f43 (fun _ h9 => h9) rfl dX7_slopeOf_21 ?_
      refine lv_iload hx hb dX7_slopeOf_24 (lv_at hl 0 rfl) ?_
      obtain ⟨hi3, h⟩ := gi_inv h
      refine va_iald hx hb hK hP 12 0 rfl rfl hi3 dX7_slopeOf_26 ?_
      refine lv_istore (lv' := [(5, .int (Mkind ((64 * v1) + v3).toNatClampNeg)), (4, .int ((64 * v1) + v3)), (0, .ref (aM 0)), (1, .int v1), (2, .int v2), (3, .int v3)]) hx hb dX7_slopeOf_27 hl (by decide) rfl (fun ls hl => ?_)
      refine lv_iload hx hb dX7_slopeOf_29 (lv_at hl 0 rfl) ?_
      refine lv_if_eq (tgt := 40) hx hb dX7_slopeOf_31 (by decide) (fun c4 => ?_) (fun c4 => ?_)
      · replace h := sf_t c4 h
        exact BH_40 _ ih _ hE274 _ _ _ _ h _ _ _ hP hD hS (lv_sub hl [2, 3, 4, 5, 1, 0] rfl)
      · replace h := sf_f c4 h
        refine lv_iload hx hb dX7_slopeOf_34 (lv_at hl 0 rfl) ?_
        refine lv_iconst (v := 1) hx hb dX7_slopeOf_36 (by decide) ?_
        refine lv_icmp_ne (tgt := 71) hx hb dX7_slopeOf_37 (by decide) (fun c9 => ?_) (fun c9 => ?_)
        · replace h := sf_f c9 h
          refine lv_iload hx hb dX7_slopeOf_71 (lv_at hl 0 rfl) ?_
          refine lv_iconst (v := 5) hx hb dX7_slopeOf_73 (by decide) ?_
          refine lv_icmp_ne (tgt := 146) hx hb dX7_slopeOf_74 (by decide) (fun c10 => ?_) (fun c10 => ?_)
          · replace h := sf_f c10 h
            refine lv_iload hx hb dX7_slopeOf_146 (lv_at hl 0 rfl) ?_
            refine lv_bipush (v := 6) hx hb dX7_slopeOf_148 (by decide) ?_
            refine lv_icmp_ne (tgt := 175) hx hb dX7_slopeOf_150 (by decide) (fun c11 => ?_) (fun c11 => ?_)
            · replace h := sf_f c11 h
              refine lv_aload_n hx hb dX7_slopeOf_175 rfl (lv_at hl 2 rfl) ?_
              refine va_get (D := D) (ci := 7) (v := .ref (aM 25)) (C := RX7) (T := TX7) (N := 37) hx hb hts iX7 hown hK hP 0 rfl rfl 29 (by decide) f83 (fun _ h9 => h9) rfl dX7_slopeOf_176 ?_
              refine lv_aload_n hx hb dX7_slopeOf_179 rfl (lv_at hl 2 rfl) ?_
              refine va_get (D := D) (ci := 7) (v := .ref (aM 13)) (C := RX7) (T := TX7) (N := 37) hx hb hts iX7 hown hK hP 0 rfl rfl 15 (by decide) f46 (fun _ h9 => h9) rfl dX7_slopeOf_180 ?_
              refine lv_iload hx hb dX7_slopeOf_183 (lv_at hl 1 rfl) ?_
              obtain ⟨hi12, h⟩ := gi_inv h
              refine va_iald hx hb hK hP 13 0 rfl rfl hi12 dX7_slopeOf_185 ?_
              obtain ⟨hi13, h⟩ := gi_inv h
              refine va_lald hx hb hK hP 25 1 rfl rfl hi13 dX7_slopeOf_186 ?_
              refine lv_lstore (lv' := [(6, .long (Mslope (Mone ((64 * v1) + v3).toNatClampNeg).toNatClampNeg)), (5, .int (Mkind ((64 * v1) + v3).toNatClampNeg)), (4, .int ((64 * v1) + v3)), (0, .ref (aM 0)), (1, .int v1), (2, .int v2), (3, .int v3)]) hx hb dX7_slopeOf_187 hl (by decide) rfl (fun ls hl => ?_)
              refine lv_aload_n hx hb dX7_slopeOf_189 rfl (lv_at hl 3 rfl) ?_
              refine va_get (D := D) (ci := 7) (v := .ref (aM 25)) (C := RX7) (T := TX7) (N := 37) hx hb hts iX7 hown hK hP 0 rfl rfl 29 (by decide) f83 (fun _ h9 => h9) rfl dX7_slopeOf_190 ?_
              refine lv_aload_n hx hb dX7_slopeOf_193 rfl (lv_at hl 3 rfl) ?_
              refine va_get (D := D) (ci := 7) (v := .ref (aM 14)) (C := RX7) (T := TX7) (N := 37) hx hb hts iX7 hown hK hP 0 rfl rfl 16 (by decide) f49 (fun _ h9 => h9) rfl dX7_slopeOf_194 ?_
              refine lv_iload hx hb dX7_slopeOf_197 (lv_at hl 2 rfl) ?_
              obtain ⟨hi14, h⟩ := gi_inv h
              refine va_iald hx hb hK hP 14 0 rfl rfl hi14 dX7_slopeOf_199 ?_
              obtain ⟨hi15, h⟩ := gi_inv h
              refine va_lald hx hb hK hP 25 1 rfl rfl hi15 dX7_slopeOf_200 ?_
              refine lv_lstore (lv' := [(8, .long (Mslope (Mother ((64 * v1) + v3).toNatClampNeg).toNatClampNeg)), (6, .long (Mslope (Mone ((64 * v1) + v3).toNatClampNeg).toNatClampNeg)), (5, .int (Mkind ((64 * v1) + v3).toNatClampNeg)), (4, .int ((64 * v1) + v3)), (0, .ref (aM 0)), (1, .int v1), (2, .int v2), (3, .int v3)]) hx hb dX7_slopeOf_201 hl (by decide) rfl (fun ls hl => ?_)
              refine lv_aload_n hx hb dX7_slopeOf_203 rfl (lv_at hl 4 rfl) ?_
              refine va_get (D := D) (ci := 7) (v := .ref (aM 25)) (C := RX7) (T := TX7) (N := 37) hx hb hts iX7 hown hK hP 0 rfl rfl 29 (by decide) f83 (fun _ h9 => h9) rfl dX7_slopeOf_204 ?_
              refine lv_iload_n hx hb dX7_slopeOf_207 rfl (lv_at hl 7 rfl) ?_
              refine lv_iload hx hb dX7_slopeOf_208 (lv_at hl 2 rfl) ?_
              refine lv_iconst (v := 2) hx hb dX7_slopeOf_210 (by decide) ?_
              refine lv_icmp_ne (tgt := 222) hx hb dX7_slopeOf_211 (by decide) (fun c16 => ?_) (fun c16 => ?_)
              · replace h := sf_f c16 h
                refine lv_iload hx hb dX7_slopeOf_222 (lv_at hl 2 rfl) ?_
                refine lv_iconst (v := 3) hx hb dX7_slopeOf_224 (by decide) ?_
                refine lv_icmp_ne (tgt := 236) hx hb dX7_slopeOf_225 (by decide) (fun c17 => ?_) (fun c17 => ?_)
                · replace h := sf_f c17 h
                  refine lv_aload_n hx hb dX7_slopeOf_236 rfl (lv_at hl 4 rfl) ?_
                  refine va_get (D := D) (ci := 7) (v := .ref (aM 24)) (C := RX7) (T := TX7) (N := 37) hx hb hts iX7 hown hK hP 0 rfl rfl 28 (by decide) f79 (fun _ h9 => h9) rfl dX7_slopeOf_237 ?_
                  refine lv_aload_n hx hb dX7_slopeOf_240 rfl (lv_at hl 4 rfl) ?_
                  refine va_get (D := D) (ci := 7) (v := .ref (aM 13)) (C := RX7) (T := TX7) (N := 37) hx hb hts iX7 hown hK hP 0 rfl rfl 15 (by decide) f46 (fun _ h9 => h9) rfl dX7_slopeOf_241 ?_
                  refine lv_iload hx hb dX7_slopeOf_244 (lv_at hl 3 rfl) ?_
                  obtain ⟨hi18, h⟩ := gi_inv h
                  refine va_iald hx hb hK hP 13 0 rfl rfl hi18 dX7_slopeOf_246 ?_
                  obtain ⟨hi19, h⟩ := gi_inv h
                  refine va_lald hx hb hK hP 24 1 rfl rfl hi19 dX7_slopeOf_247 ?_
                  refine lv_lload hx hb dX7_slopeOf_248 (lv_at hl 0 rfl) ?_
                  refine lv_lmul hx hb dX7_slopeOf_250 ?_
                  refine lv_lload hx hb dX7_slopeOf_251 (lv_at hl 1 rfl) ?_
                  refine lv_aload_n hx hb dX7_slopeOf_253 rfl (lv_at hl 4 rfl) ?_
                  refine va_get (D := D) (ci := 7) (v := .ref (aM 24)) (C := RX7) (T := TX7) (N := 37) hx hb hts iX7 hown hK hP 0 rfl rfl 28 (by decide) f79 (fun _ h9 => h9) rfl dX7_slopeOf_254 ?_
                  refine lv_aload_n hx hb dX7_slopeOf_257 rfl (lv_at hl 4 rfl) ?_
                  refine va_get (D := D) (ci := 7) (v := .ref (aM 14)) (C := RX7) (T := TX7) (N := 37) hx hb hts iX7 hown hK hP 0 rfl rfl 16 (by decide) f49 (fun _ h9 => h9) rfl dX7_slopeOf_258 ?_
                  refine lv_iload hx hb dX7_slopeOf_261 (lv_at hl 3 rfl) ?_
                  obtain ⟨hi20, h⟩ := gi_inv h
                  refine va_iald hx hb hK hP 14 0 rfl rfl hi20 dX7_slopeOf_263 ?_
                  obtain ⟨hi21, h⟩ := gi_inv h
                  refine va_lald hx hb hK hP 24 1 rfl rfl hi21 dX7_slopeOf_264 ?_
                  refine lv_lmul hx hb dX7_slopeOf_265 ?_
                  refine lv_ladd hx hb dX7_slopeOf_266 ?_
                  obtain ⟨hi22, h⟩ := gi_inv h
                  refine va_last hx hb hK hP hD hS 25 1 rfl rfl hi22 dX7_slopeOf_267 (fun H locs hP hD hS => ?_)
                  replace hP : va_P D vwCl (wM k aM Mestimate Munit Msort Mwidth Mmany Mreading Mvariance Mcovariance Mline Mformulas Mroot Mkind Mone Mother Msigns Mplace MleftOf MrightOf Mtype Msum Msign MsignAt Mproduct Mvalue (vp_updL Mslope (v3.toNatClampNeg) (((Mvalue (Mone ((64 * v1) + v3).toNatClampNeg).toNatClampNeg) * (Mslope (Mother ((64 * v1) + v3).toNatClampNeg).toNatClampNeg)) + ((Mslope (Mone ((64 * v1) + v3).toNatClampNeg).toNatClampNeg) * (Mvalue (Mother ((64 * v1) + v3).toNatClampNeg).toNatClampNeg)))) Mexponent Mdrawn Mslopes Mfrom Mfactor Mthrown Mlength Mmodels Mopen Mat Mrows Mx) H := hP
                  replace hD : va_D A (wM k aM Mestimate Munit Msort Mwidth Mmany Mreading Mvariance Mcovariance Mline Mformulas Mroot Mkind Mone Mother Msigns Mplace MleftOf MrightOf Mtype Msum Msign MsignAt Mproduct Mvalue (vp_updL Mslope (v3.toNatClampNeg) (((Mvalue (Mone ((64 * v1) + v3).toNatClampNeg).toNatClampNeg) * (Mslope (Mother ((64 * v1) + v3).toNatClampNeg).toNatClampNeg)) + ((Mslope (Mone ((64 * v1) + v3).toNatClampNeg).toNatClampNeg) * (Mvalue (Mother ((64 * v1) + v3).toNatClampNeg).toNatClampNeg)))) Mexponent Mdrawn Mslopes Mfrom Mfactor Mthrown Mlength Mmodels Mopen Mat Mrows Mx) := hD
                  refine lv_iinc (v := v3 + 1) (lv' := [(3, .int (v3 + 1)), (8, .long (Mslope (Mother ((64 * v1) + v3).toNatClampNeg).toNatClampNeg)), (6, .long (Mslope (Mone ((64 * v1) + v3).toNatClampNeg).toNatClampNeg)), (5, .int (Mkind ((64 * v1) + v3).toNatClampNeg)), (4, .int ((64 * v1) + v3)), (0, .ref (aM 0)), (1, .int v1), (2, .int v2)]) hx hb dX7_slopeOf_268 hl (k := 7) rfl rfl (by decide) rfl (fun ls hl => ?_)
                  refine lv_goto (tgt := 2) hx hb dX7_slopeOf_271 (by decide) ?_
                  exact ih _ _ h _ _ _ hP hD hS (lv_sub hl [5, 6, 7, 0] rfl)
                · replace h := sf_t c17 h
                  refine lv_lload hx hb dX7_slopeOf_228 (lv_at hl 1 rfl) ?_
                  refine lv_lload hx hb dX7_slopeOf_230 (lv_at hl 0 rfl) ?_
                  refine lv_lsub hx hb dX7_slopeOf_232 ?_
                  refine lv_goto (tgt := 267) hx hb dX7_slopeOf_233 (by decide) ?_
                  obtain ⟨hi23, h⟩ := gi_inv h
                  refine va_last hx hb hK hP hD hS 25 1 rfl rfl hi23 dX7_slopeOf_267 (fun H locs hP hD hS => ?_)
                  replace hP : va_P D vwCl (wM k aM Mestimate Munit Msort Mwidth Mmany Mreading Mvariance Mcovariance Mline Mformulas Mroot Mkind Mone Mother Msigns Mplace MleftOf MrightOf Mtype Msum Msign MsignAt Mproduct Mvalue (vp_updL Mslope (v3.toNatClampNeg) ((Mslope (Mone ((64 * v1) + v3).toNatClampNeg).toNatClampNeg) - (Mslope (Mother ((64 * v1) + v3).toNatClampNeg).toNatClampNeg))) Mexponent Mdrawn Mslopes Mfrom Mfactor Mthrown Mlength Mmodels Mopen Mat Mrows Mx) H := hP
                  replace hD : va_D A (wM k aM Mestimate Munit Msort Mwidth Mmany Mreading Mvariance Mcovariance Mline Mformulas Mroot Mkind Mone Mother Msigns Mplace MleftOf MrightOf Mtype Msum Msign MsignAt Mproduct Mvalue (vp_updL Mslope (v3.toNatClampNeg) ((Mslope (Mone ((64 * v1) + v3).toNatClampNeg).toNatClampNeg) - (Mslope (Mother ((64 * v1) + v3).toNatClampNeg).toNatClampNeg))) Mexponent Mdrawn Mslopes Mfrom Mfactor Mthrown Mlength Mmodels Mopen Mat Mrows Mx) := hD
                  refine lv_iinc (v := v3 + 1) (lv' := [(3, .int (v3 + 1)), (8, .long (Mslope (Mother ((64 * v1) + v3).toNatClampNeg).toNatClampNeg)), (6, .long (Mslope (Mone ((64 * v1) + v3).toNatClampNeg).toNatClampNeg)), (5, .int (Mkind ((64 * v1) + v3).toNatClampNeg)), (4, .int ((64 * v1) + v3)), (0, .ref (aM 0)), (1, .int v1), (2, .int v2)]) hx hb dX7_slopeOf_268 hl (k := 7) rfl rfl (by decide) rfl (fun ls hl => ?_)
                  refine lv_goto (tgt := 2) hx hb dX7_slopeOf_271 (by decide) ?_
                  exact ih _ _ h _ _ _ hP hD hS (lv_sub hl [5, 6, 7, 0] rfl)
              · replace h := sf_t c16 h
                refine lv_lload hx hb dX7_slopeOf_214 (lv_at hl 1 rfl) ?_
                refine lv_lload hx hb dX7_slopeOf_216 (lv_at hl 0 rfl) ?_
                refine lv_ladd hx hb dX7_slopeOf_218 ?_
                refine lv_goto (tgt := 267) hx hb dX7_slopeOf_219 (by decide) ?_
                obtain ⟨hi24, h⟩ := gi_inv h
                refine va_last hx hb hK hP hD hS 25 1 rfl rfl hi24 dX7_slopeOf_267 (fun H locs hP hD hS => ?_)
                replace hP : va_P D vwCl (wM k aM Mestimate Munit Msort Mwidth Mmany Mreading Mvariance Mcovariance Mline Mformulas Mroot Mkind Mone Mother Msigns Mplace MleftOf MrightOf Mtype Msum Msign MsignAt Mproduct Mvalue (vp_updL Mslope (v3.toNatClampNeg) ((Mslope (Mone ((64 * v1) + v3).toNatClampNeg).toNatClampNeg) + (Mslope (Mother ((64 * v1) + v3).toNatClampNeg).toNatClampNeg))) Mexponent Mdrawn Mslopes Mfrom Mfactor Mthrown Mlength Mmodels Mopen Mat Mrows Mx) H := hP
                replace hD : va_D A (wM k aM Mestimate Munit Msort Mwidth Mmany Mreading Mvariance Mcovariance Mline Mformulas Mroot Mkind Mone Mother Msigns Mplace MleftOf MrightOf Mtype Msum Msign MsignAt Mproduct Mvalue (vp_updL Mslope (v3.toNatClampNeg) ((Mslope (Mone ((64 * v1) + v3).toNatClampNeg).toNatClampNeg) + (Mslope (Mother ((64 * v1) + v3).toNatClampNeg).toNatClampNeg))) Mexponent Mdrawn Mslopes Mfrom Mfactor Mthrown Mlength Mmodels Mopen Mat Mrows Mx) := hD
                refine lv_iinc (v := v3 + 1) (lv' := [(3, .int (v3 + 1)), (8, .long (Mslope (Mother ((64 * v1) + v3).toNatClampNeg).toNatClampNeg)), (6, .long (Mslope (Mone ((64 * v1) + v3).toNatClampNeg).toNatClampNeg)), (5, .int (Mkind ((64 * v1) + v3).toNatClampNeg)), (4, .int ((64 * v1) + v3)), (0, .ref (aM 0)), (1, .int v1), (2, .int v2)]) hx hb dX7_slopeOf_268 hl (k := 7) rfl rfl (by decide) rfl (fun ls hl => ?_)
                refine lv_goto (tgt := 2) hx hb dX7_slopeOf_271 (by decide) ?_
                exact ih _ _ h _ _ _ hP hD hS (lv_sub hl [5, 6, 7, 0] rfl)
            · replace h := sf_t c11 h
              refine lv_aload_n hx hb dX7_slopeOf_153 rfl (lv_at hl 2 rfl) ?_
              refine va_get (D := D) (ci := 7) (v := .ref (aM 25)) (C := RX7) (T := TX7) (N := 37) hx hb hts iX7 hown hK hP 0 rfl rfl 29 (by decide) f83 (fun _ h9 => h9) rfl dX7_slopeOf_154 ?_
              refine lv_iload_n hx hb dX7_slopeOf_157 rfl (lv_at hl 5 rfl) ?_
              refine lv_aload_n hx hb dX7_slopeOf_158 rfl (lv_at hl 2 rfl) ?_
              refine va_get (D := D) (ci := 7) (v := .ref (aM 25)) (C := RX7) (T := TX7) (N := 37) hx hb hts iX7 hown hK hP 0 rfl rfl 29 (by decide) f83 (fun _ h9 => h9) rfl dX7_slopeOf_159 ?_
              refine lv_aload_n hx hb dX7_slopeOf_162 rfl (lv_at hl 2 rfl) ?_
              refine va_get (D := D) (ci := 7) (v := .ref (aM 13)) (C := RX7) (T := TX7) (N := 37) hx hb hts iX7 hown hK hP 0 rfl rfl 15 (by decide) f46 (fun _ h9 => h9) rfl dX7_slopeOf_163 ?_
              refine lv_iload hx hb dX7_slopeOf_166 (lv_at hl 1 rfl) ?_
              obtain ⟨hi25, h⟩ := gi_inv h
              refine va_iald hx hb hK hP 13 0 rfl rfl hi25 dX7_slopeOf_168 ?_
              obtain ⟨hi26, h⟩ := gi_inv h
              refine va_lald hx hb hK hP 25 1 rfl rfl hi26 dX7_slopeOf_169 ?_
              refine lv_lneg hx hb dX7_slopeOf_170 ?_
              obtain ⟨hi27, h⟩ := gi_inv h
              refine va_last hx hb hK hP hD hS 25 1 rfl rfl hi27 dX7_slopeOf_171 (fun H locs hP hD hS => ?_)
              replace hP : va_P D vwCl (wM k aM Mestimate Munit Msort Mwidth Mmany Mreading Mvariance Mcovariance Mline Mformulas Mroot Mkind Mone Mother Msigns Mplace MleftOf MrightOf Mtype Msum Msign MsignAt Mproduct Mvalue (vp_updL Mslope (v3.toNatClampNeg) (-(Mslope (Mone ((64 * v1) + v3).toNatClampNeg).toNatClampNeg))) Mexponent Mdrawn Mslopes Mfrom Mfactor Mthrown Mlength Mmodels Mopen Mat Mrows Mx) H := hP
              replace hD : va_D A (wM k aM Mestimate Munit Msort Mwidth Mmany Mreading Mvariance Mcovariance Mline Mformulas Mroot Mkind Mone Mother Msigns Mplace MleftOf MrightOf Mtype Msum Msign MsignAt Mproduct Mvalue (vp_updL Mslope (v3.toNatClampNeg) (-(Mslope (Mone ((64 * v1) + v3).toNatClampNeg).toNatClampNeg))) Mexponent Mdrawn Mslopes Mfrom Mfactor Mthrown Mlength Mmodels Mopen Mat Mrows Mx) := hD
              refine lv_goto (tgt := 268) hx hb dX7_slopeOf_172 (by decide) ?_
              refine lv_iinc (v := v3 + 1) (lv' := [(3, .int (v3 + 1)), (5, .int (Mkind ((64 * v1) + v3).toNatClampNeg)), (4, .int ((64 * v1) + v3)), (0, .ref (aM 0)), (1, .int v1), (2, .int v2)]) hx hb dX7_slopeOf_268 hl (k := 5) rfl rfl (by decide) rfl (fun ls hl => ?_)
              refine lv_goto (tgt := 2) hx hb dX7_slopeOf_271 (by decide) ?_
              exact ih _ _ h _ _ _ hP hD hS (lv_sub hl [3, 4, 5, 0] rfl)
          · replace h := sf_t c10 h
            refine lv_aload_n hx hb dX7_slopeOf_77 rfl (lv_at hl 2 rfl) ?_
            refine va_get (D := D) (ci := 7) (v := .ref (aM 25)) (C := RX7) (T := TX7) (N := 37) hx hb hts iX7 hown hK hP 0 rfl rfl 29 (by decide) f83 (fun _ h9 => h9) rfl dX7_slopeOf_78 ?_
            refine lv_iload_n hx hb dX7_slopeOf_81 rfl (lv_at hl 5 rfl) ?_
            refine lv_aload_n hx hb dX7_slopeOf_82 rfl (lv_at hl 2 rfl) ?_
            refine va_get (D := D) (ci := 7) (v := .ref (aM 14)) (C := RX7) (T := TX7) (N := 37) hx hb hts iX7 hown hK hP 0 rfl rfl 16 (by decide) f49 (fun _ h9 => h9) rfl dX7_slopeOf_83 ?_
            refine lv_iload hx hb dX7_slopeOf_86 (lv_at hl 1 rfl) ?_
            obtain ⟨hi28, h⟩ := gi_inv h
            refine va_iald hx hb hK hP 14 0 rfl rfl hi28 dX7_slopeOf_88 ?_
            refine lv_if_ne (tgt := 96) hx hb dX7_slopeOf_89 (by decide) (fun c29 => ?_) (fun c29 => ?_)
            · replace h := sf_f c29 h
              refine lv_aload_n hx hb dX7_slopeOf_96 rfl (lv_at hl 2 rfl) ?_
              refine va_get (D := D) (ci := 7) (v := .ref (aM 14)) (C := RX7) (T := TX7) (N := 37) hx hb hts iX7 hown hK hP 0 rfl rfl 16 (by decide) f49 (fun _ h9 => h9) rfl dX7_slopeOf_97 ?_
              refine lv_iload hx hb dX7_slopeOf_100 (lv_at hl 1 rfl) ?_
              obtain ⟨hi30, h⟩ := gi_inv h
              refine va_iald hx hb hK hP 14 0 rfl rfl hi30 dX7_slopeOf_102 ?_
              refine lv_i2l hx hb dX7_slopeOf_103 rfl ?_
              refine lv_aload_n hx hb dX7_slopeOf_104 rfl (lv_at hl 2 rfl) ?_
              refine va_get (D := D) (ci := 7) (v := .ref (aM 24)) (C := RX7) (T := TX7) (N := 37) hx hb hts iX7 hown hK hP 0 rfl rfl 28 (by decide) f79 (fun _ h9 => h9) rfl dX7_slopeOf_105 ?_
              refine lv_aload_n hx hb dX7_slopeOf_108 rfl (lv_at hl 2 rfl) ?_
              refine va_get (D := D) (ci := 7) (v := .ref (aM 13)) (C := RX7) (T := TX7) (N := 37) hx hb hts iX7 hown hK hP 0 rfl rfl 15 (by decide) f46 (fun _ h9 => h9) rfl dX7_slopeOf_109 ?_
              refine lv_iload hx hb dX7_slopeOf_112 (lv_at hl 1 rfl) ?_
              obtain ⟨hi31, h⟩ := gi_inv h
              refine va_iald hx hb hK hP 13 0 rfl rfl hi31 dX7_slopeOf_114 ?_
              obtain ⟨hi32, h⟩ := gi_inv h
              refine va_lald hx hb hK hP 24 1 rfl rfl hi32 dX7_slopeOf_115 ?_
              refine lv_aload_n hx hb dX7_slopeOf_116 rfl (lv_at hl 2 rfl) ?_
              refine va_get (D := D) (ci := 7) (v := .ref (aM 14)) (C := RX7) (T := TX7) (N := 37) hx hb hts iX7 hown hK hP 0 rfl rfl 16 (by decide) f49 (fun _ h9 => h9) rfl dX7_slopeOf_117 ?_
              refine lv_iload hx hb dX7_slopeOf_120 (lv_at hl 1 rfl) ?_
              obtain ⟨hi33, h⟩ := gi_inv h
              refine va_iald hx hb hK hP 14 0 rfl rfl hi33 dX7_slopeOf_122 ?_
              refine lv_iconst (v := 1) hx hb dX7_slopeOf_123 (by decide) ?_
              refine lv_isub hx hb dX7_slopeOf_124 ?_
              obtain ⟨r34, hc34, h⟩ := bnd1_inv h
              have hPc := hP.sub (ws' := ([] : va_W)) [] rfl
              have hDc := hD.sub (ws' := ([] : va_W)) [] rfl rfl
              have hFc := va_free (wc := ([] : va_W)) hD hS hA [] rfl
              refine xc_l (va_runS (As := [.long (Mvalue (Mone ((64 * v1) + v3).toNatClampNeg).toNatClampNeg), .int ((Mother ((64 * v1) + v3).toNatClampNeg) - 1)]) (rest := [.long ((Mother ((64 * v1) + v3).toNatClampNeg).toInt64), .int v3, .ref (aM 25)]) ⟨hx, hb, hml, hown, hts⟩ (met_X7_power_ l D k  H.size (Mvalue (Mone ((64 * v1) + v3).toNatClampNeg).toNatClampNeg) ((Mother ((64 * v1) + v3).toNatClampNeg) - 1) r34 hc34) (va_cwS 2 hts gX7_slopeOf_X7_power_ rfl rfl rfl (by decide +kernel) ⟨Nat.le_of_ble_eq_true rfl, Nat.le_of_ble_eq_true rfl⟩) ⟨pw_blind, pw_start hPc hK hDc⟩ rfl rfl hl.1 rfl (lv_room (Nat.le_of_ble_eq_true rfl)) dX7_slopeOf_125 ⟨Nat.zero_le _, Nat.zero_le _⟩) hS hFc (fun H1 locs hP1 hD1 hk1 hS => ?_)
              obtain ⟨hP, hD⟩ := vj (ws' := (wM k aM Mestimate Munit Msort Mwidth Mmany Mreading Mvariance Mcovariance Mline Mformulas Mroot Mkind Mone Mother Msigns Mplace MleftOf MrightOf Mtype Msum Msign MsignAt Mproduct Mvalue Mslope Mexponent Mdrawn Mslopes Mfrom Mfactor Mthrown Mlength Mmodels Mopen Mat Mrows Mx)) (w1 := ([] : va_W)) hP hD [] [0, 1, 2, 3, 4, 5, 6, 7, 8, 9, 10, 11, 12, 13, 14, 15, 16, 17, 18, 19, 20, 21, 22, 23, 24, 25, 26, 27, 28, 29, 30] [0, 1, 2, 3, 4, 5, 6, 7, 8, 9, 10, 11, 12, 13, 14, 15, 16, 17, 18, 19, 20, 21, 22, 23, 24, 25, 26, 27, 28, 29, 30] rfl rfl rfl rfl rfl hk1 hFc hP1 hD1
              clear hP1 hD1 hk1 hFc
              generalize H1 = H at hP hS ⊢
              refine lv_lmul hx hb dX7_slopeOf_128 ?_
              refine lv_aload_n hx hb dX7_slopeOf_129 rfl (lv_at hl 2 rfl) ?_
              refine va_get (D := D) (ci := 7) (v := .ref (aM 25)) (C := RX7) (T := TX7) (N := 37) hx hb hts iX7 hown hK hP 0 rfl rfl 29 (by decide) f83 (fun _ h9 => h9) rfl dX7_slopeOf_130 ?_
              refine lv_aload_n hx hb dX7_slopeOf_133 rfl (lv_at hl 2 rfl) ?_
              refine va_get (D := D) (ci := 7) (v := .ref (aM 13)) (C := RX7) (T := TX7) (N := 37) hx hb hts iX7 hown hK hP 0 rfl rfl 15 (by decide) f46 (fun _ h9 => h9) rfl dX7_slopeOf_134 ?_
              refine lv_iload hx hb dX7_slopeOf_137 (lv_at hl 1 rfl) ?_
              obtain ⟨hi35, h⟩ := gi_inv h
              refine va_iald hx hb hK hP 13 0 rfl rfl hi35 dX7_slopeOf_139 ?_
              obtain ⟨hi36, h⟩ := gi_inv h
              refine va_lald hx hb hK hP 25 1 rfl rfl hi36 dX7_slopeOf_140 ?_
              refine lv_lmul hx hb dX7_slopeOf_141 ?_
              exact BH_142 _ ih _ hE274 _ _ _ _ h _ _ _ hP hD hS (lv_sub hl [2, 3, 4, 5] rfl)
            · replace h := sf_t c29 h
              refine lv_lconst (v := 0) hx hb dX7_slopeOf_92 (by decide) ?_
              refine lv_goto (tgt := 142) hx hb dX7_slopeOf_93 (by decide) ?_
              exact BH_142 _ ih _ hE274 _ _ _ _ h _ _ _ hP hD hS (lv_sub hl [2, 3, 4, 5] rfl)
        · replace h := sf_t c9 h
          exact BH_40 _ ih _ hE274 _ _ _ _ h _ _ _ hP hD hS (lv_sub hl [2, 3, 4, 5, 1, 0] rfl)
  suffices main : ∀ (H : Heap) (locs : List Loc) (ls : Array Slot), va_P D vwCl (wM k aM Mestimate Munit Msort Mwidth Mmany Mreading Mvariance Mcovariance Mline Mformulas Mroot Mkind Mone Mother Msigns Mplace MleftOf MrightOf Mtype Msum Msign MsignAt Mproduct Mvalue Mslope Mexponent Mdrawn Mslopes Mfrom Mfactor Mthrown Mlength Mmodels Mopen Mat Mrows Mx) H → va_D A (wM k aM Mestimate Munit Msort Mwidth Mmany Mreading Mvariance Mcovariance Mline Mformulas Mroot Mkind Mone Mother Msigns Mplace MleftOf MrightOf Mtype Msum Msign MsignAt Mproduct Mvalue Mslope Mexponent Mdrawn Mslopes Mfrom Mfactor Mthrown Mlength Mmodels Mopen Mat Mrows Mx) → va_S A s.heap H locs → lv_has ls 10 [(0, .ref (aM 0)), (1, .int v1), (2, .int v2)] → W p l e rmX7_slopeOf s m args below meth c H locs 0 0 Q (F0 m 0 ls []) from main _ _ _ hP hD hS hl
  clear hP hD hS hl ls hAe
  intro H locs ls hP hD hS hl
  refine lv_iconst (v := 0) hx hb dX7_slopeOf_0 (by decide) ?_
  refine lv_istore_n (lv' := [(3, .int 0), (0, .ref (aM 0)), (1, .int v1), (2, .int v2)]) hx hb dX7_slopeOf_1 rfl hl (by decide) rfl (fun ls hl => ?_)
  refine LH_2 _ (fun Mslope h H locs ls hP hD hS hl => ?_) _ _ _ h _ _ _ hP hD hS (lv_sub hl [1, 2, 3, 0] rfl)
  · skip
    refine lv_aload_n hx hb dX7_slopeOf_274 rfl (lv_at hl 0 rfl) ?_
    refine va_get (D := D) (ci := 7) (v := .ref (aM 25)) (C := RX7) (T := TX7) (N := 37) hx hb hts iX7 hown hK hP 0 rfl rfl 29 (by decide) f83 (fun _ h9 => h9) rfl dX7_slopeOf_275 ?_
    refine lv_aload_n hx hb dX7_slopeOf_278 rfl (lv_at hl 0 rfl) ?_
    refine va_get (D := D) (ci := 7) (v := .ref (aM 11)) (C := RX7) (T := TX7) (N := 37) hx hb hts iX7 hown hK hP 0 rfl rfl 13 (by decide) f40 (fun _ h9 => h9) rfl dX7_slopeOf_279 ?_
    refine lv_iload_n hx hb dX7_slopeOf_282 rfl (lv_at hl 1 rfl) ?_
    obtain ⟨hi38, h⟩ := gi_inv h
    refine va_iald hx hb hK hP 11 0 rfl rfl hi38 dX7_slopeOf_283 ?_
    obtain ⟨hi39, h⟩ := gi_inv h
    refine va_lald hx hb hK hP 25 1 rfl rfl hi39 dX7_slopeOf_284 ?_
    have hP9 := hP
    have hD9 := hD
    have hS9 := hS
    subst hQ
    cases h
    exact W.lret hx hb hr (fun t ht hW => ⟨⟨_, (), rfl, rfl, by rw [ht]; exact hP9, va_K.moved hW.alike hK, hD9⟩, hS9.F ht⟩) hS9.2.2 dX7_slopeOf_285
def BX7_sensitivity_21 (Mestimate : Nat → Int32) (Mformulas : Nat → Int32) (Mroot : Nat → Int32) (Mkind : Nat → Int32) (Mone : Nat → Int32) (Mother : Nat → Int32) (Mdrawn : Nat → Int32) (Mmodels : Int32) (v1 : Int32) (v2 : Int32)  (s1 : Int32) (Mvalue : Nat → Int64) (Mslope : Nat → Int64) (Mthrown : Int32) : Option (Int64 × (Nat → Int64) × (Nat → Int64) × Int32) := bnd2 (fX7_holds s1 Mthrown) (fun r3 thrown_3 => (if r3 = 0 then some (0, Mvalue, Mslope, thrown_3) else bnd2 (fX7_values v1 0 Mestimate Mformulas Mroot Mkind Mone Mother Mvalue Mdrawn) (fun r5 value_5 => bnd2 (fX7_slopeOf v1 v2 Mformulas Mroot Mkind Mone Mother value_5 Mslope) (fun r6 slope_6 => some (r6, value_5, slope_6, thrown_3)))))
def BX7_sensitivity_20 (Mestimate : Nat → Int32) (Mformulas : Nat → Int32) (Mroot : Nat → Int32) (Mkind : Nat → Int32) (Mone : Nat → Int32) (Mother : Nat → Int32) (Mdrawn : Nat → Int32) (Mmodels : Int32) (v1 : Int32) (v2 : Int32)  (Mvalue : Nat → Int64) (Mslope : Nat → Int64) (Mthrown : Int32) : Option (Int64 × (Nat → Int64) × (Nat → Int64) × Int32) := BX7_sensitivity_21 Mestimate Mformulas Mroot Mkind Mone Mother Mdrawn Mmodels v1 v2 1 Mvalue Mslope Mthrown
def fX7_sensitivity (v1 : Int32) (v2 : Int32) (Mestimate : Nat → Int32) (Mformulas : Nat → Int32) (Mroot : Nat → Int32) (Mkind : Nat → Int32) (Mone : Nat → Int32) (Mother : Nat → Int32) (Mvalue : Nat → Int64) (Mslope : Nat → Int64) (Mdrawn : Nat → Int32) (Mthrown : Int32) (Mmodels : Int32) : Option (Int64 × (Nat → Int64) × (Nat → Int64) × Int32) := bnd1 (fX7_isModel v1 Mmodels) (fun r1 => (if r1 = 0 then BX7_sensitivity_20 Mestimate Mformulas Mroot Mkind Mone Mother Mdrawn Mmodels v1 v2 Mvalue Mslope Mthrown else bnd1 (fX7_isInput v2) (fun r7 => (if r7 = 0 then BX7_sensitivity_20 Mestimate Mformulas Mroot Mkind Mone Mother Mdrawn Mmodels v1 v2 Mvalue Mslope Mthrown else BX7_sensitivity_21 Mestimate Mformulas Mroot Mkind Mone Mother Mdrawn Mmodels v1 v2 0 Mvalue Mslope Mthrown))))
abbrev rmX7_sensitivity : Room := { frames := 2, cells := 0, slots := 0, locals := 54 }
set_option maxHeartbeats 4000000 in
set_option maxRecDepth 100000 in
theorem met_X7_sensitivity (l : Launch) (D : va_G) (k : Nat → ClassId)  (aM : Nat → Nat) (sz : Nat) (Mestimate : Nat → Int32) (Munit : Nat → Int32) (Msort : Nat → Int32) (Mwidth : Nat → Int32) (Mmany : Nat → Int32) (Mreading : Nat → Int32) (Mvariance : Nat → Int32) (Mcovariance : Nat → Int32) (Mline : Nat → Int32) (Mformulas : Nat → Int32) (Mroot : Nat → Int32) (Mkind : Nat → Int32) (Mone : Nat → Int32) (Mother : Nat → Int32) (Msigns : Nat → Int32) (Mplace : Nat → Int32) (MleftOf : Nat → Int32) (MrightOf : Nat → Int32) (Mtype : Nat → Int32) (Msum : Nat → Int32) (Msign : Nat → Int32) (MsignAt : Nat → Int32) (Mproduct : Nat → Int32) (Mvalue : Nat → Int64) (Mslope : Nat → Int64) (Mexponent : Nat → Int32) (Mdrawn : Nat → Int32) (Mslopes : Nat → Int64) (Mfrom : Nat → Int32) (Mfactor : Nat → Int32) (Mthrown : Int32) (Mlength : Int32) (Mmodels : Int32) (Mopen : Int32) (Mat : Int32) (Mrows : Int32) (Mx : Int32) (v1 : Int32) (v2 : Int32) (r : Int64) (RMvalue : Nat → Int64) (RMslope : Nat → Int64) (RMthrown : Int32) (h : fX7_sensitivity v1 v2 Mestimate Mformulas Mroot Mkind Mone Mother Mvalue Mslope Mdrawn Mthrown Mmodels = some (r, RMvalue, RMslope, RMthrown)) : Met l yX7_sensitivity wsX7_sensitivity rmX7_sensitivity (va_Pc [.ref (aM 0), .int v1, .int v2] (PreW D k (wM k aM Mestimate Munit Msort Mwidth Mmany Mreading Mvariance Mcovariance Mline Mformulas Mroot Mkind Mone Mother Msigns Mplace MleftOf MrightOf Mtype Msum Msign MsignAt Mproduct Mvalue Mslope Mexponent Mdrawn Mslopes Mfrom Mfactor Mthrown Mlength Mmodels Mopen Mat Mrows Mx) sz)) (va_Ql (fun r9 (_ : Unit) => r9 = r) (fun _ t => PostW D k (va_A (wM k aM Mestimate Munit Msort Mwidth Mmany Mreading Mvariance Mcovariance Mline Mformulas Mroot Mkind Mone Mother Msigns Mplace MleftOf MrightOf Mtype Msum Msign MsignAt Mproduct Mvalue Mslope Mexponent Mdrawn Mslopes Mfrom Mfactor Mthrown Mlength Mmodels Mopen Mat Mrows Mx) sz) (wM k aM Mestimate Munit Msort Mwidth Mmany Mreading Mvariance Mcovariance Mline Mformulas Mroot Mkind Mone Mother Msigns Mplace MleftOf MrightOf Mtype Msum Msign MsignAt Mproduct RMvalue RMslope Mexponent Mdrawn Mslopes Mfrom Mfactor RMthrown Mlength Mmodels Mopen Mat Mrows Mx) t) (va_A (wM k aM Mestimate Munit Msort Mwidth Mmany Mreading Mvariance Mcovariance Mline Mformulas Mroot Mkind Mone Mother Msigns Mplace MleftOf MrightOf Mtype Msum Msign MsignAt Mproduct Mvalue Mslope Mexponent Mdrawn Mslopes Mfrom Mfactor Mthrown Mlength Mmodels Mopen Mat Mrows Mx) sz)) 0 0 (va_A (wM k aM Mestimate Munit Msort Mwidth Mmany Mreading Mvariance Mcovariance Mline Mformulas Mroot Mkind Mone Mother Msigns Mplace MleftOf MrightOf Mtype Msum Msign MsignAt Mproduct Mvalue Mslope Mexponent Mdrawn Mslopes Mfrom Mfactor Mthrown Mlength Mmodels Mopen Mat Mrows Mx) sz) := by
  refine Met.ofW (cc := cX7_sensitivity) (maxL := 3) (ret := (some .long)) (by decide) rfl ?_
  intro p e s m args below meth c s₁ B hml hv
  obtain ⟨hav, hsz, hP, hK, hD0⟩ := hv
  have hx := B.exec
  have hb := B.bytes
  have hr := B.returns
  have hts := atoms_spec (ws := wsX7_sensitivity) B.pre
  have hown : s.vm.findClass RX7 = some m.cls := findClass_of_methodNamed B.named
  have hlocks := B.notSynchronized
  subst hsz
  have hD := hD0.self (sz := s.heap.size)
  clear hD0
  generalize hAe : va_A (wM k aM Mestimate Munit Msort Mwidth Mmany Mreading Mvariance Mcovariance Mline Mformulas Mroot Mkind Mone Mother Msigns Mplace MleftOf MrightOf Mtype Msum Msign MsignAt Mproduct Mvalue Mslope Mexponent Mdrawn Mslopes Mfrom Mfactor Mthrown Mlength Mmodels Mopen Mat Mrows Mx) s.heap.size = A at hD ⊢
  have hA : ∀ q : Nat, s.heap.size ≤ q → A q := fun q h => by rw [← hAe]; exact Or.inr h
  have hS : va_S A s.heap s.heap [] := va_S.rf
  have hl := lv_entry ([.ref (aM 0), .int v1, .int v2]) (n := 3) (Nat.le_of_ble_eq_true rfl)
  rw [show entryFrame m args 3 = entryFrame m ([.ref (aM 0), .int v1, .int v2] : List Value).toArray 3 from by rw [hav], lg_entry_eq]
  generalize (lg_sl ([.ref (aM 0), .int v1, .int v2]) ++ List.replicate (3 - (lg_sl ([.ref (aM 0), .int v1, .int v2])).length) Slot.unset).toArray = ls at hl ⊢
  replace hl : lv_has ls 3 [(0, .ref (aM 0)), (1, .int v1), (2, .int v2)] := hl
  refine w_q (fun Q hQ => ?_)
  unfold fX7_sensitivity at h
  show W p l e rmX7_sensitivity s m args below meth c s.heap [] 0 0 Q (F0 m 0 ls [])
  have BH_21 : ∀ (s1 : Int32) (Mvalue : Nat → Int64) (Mslope : Nat → Int64) (Mthrown : Int32), BX7_sensitivity_21 Mestimate Mformulas Mroot Mkind Mone Mother Mdrawn Mmodels v1 v2 s1 Mvalue Mslope Mthrown = some (r, RMvalue, RMslope, RMthrown) → ∀ (H : Heap) (locs : List Loc) (ls : Array Slot), va_P D vwCl (wM k aM Mestimate Munit Msort Mwidth Mmany Mreading Mvariance Mcovariance Mline Mformulas Mroot Mkind Mone Mother Msigns Mplace MleftOf MrightOf Mtype Msum Msign MsignAt Mproduct Mvalue Mslope Mexponent Mdrawn Mslopes Mfrom Mfactor Mthrown Mlength Mmodels Mopen Mat Mrows Mx) H → va_D A (wM k aM Mestimate Munit Msort Mwidth Mmany Mreading Mvariance Mcovariance Mline Mformulas Mroot Mkind Mone Mother Msigns Mplace MleftOf MrightOf Mtype Msum Msign MsignAt Mproduct Mvalue Mslope Mexponent Mdrawn Mslopes Mfrom Mfactor Mthrown Mlength Mmodels Mopen Mat Mrows Mx) → va_S A s.heap H locs → lv_has ls 3 [(0, .ref (aM 0)), (1, .int v1), (2, .int v2)] → W p l e rmX7_sensitivity s m args below meth c H locs 0 0 Q (F0 m 21 ls [.int s1, .ref (aM 0)]) := by
    intro  s1 Mvalue Mslope Mthrown h H locs ls hP hD hS hl
    unfold BX7_sensitivity_21 at h
    obtain ⟨r3, thrown_3, hc3, h⟩ := bnd2_inv h
    have hFc := va_free (wc := (wM k aM Mestimate Munit Msort Mwidth Mmany Mreading Mvariance Mcovariance Mline Mformulas Mroot Mkind Mone Mother Msigns Mplace MleftOf MrightOf Mtype Msum Msign MsignAt Mproduct Mvalue Mslope Mexponent Mdrawn Mslopes Mfrom Mfactor Mthrown Mlength Mmodels Mopen Mat Mrows Mx)) hD hS hA [0, 1, 2, 3, 4, 5, 6, 7, 8, 9, 10, 11, 12, 13, 14, 15, 16, 17, 18, 19, 20, 21, 22, 23, 24, 25, 26, 27, 28, 29, 30] rfl
    refine xc_i (va_runV (As := [.int s1]) (rest := []) ⟨hx, hb, hml, hown, hts⟩ (met_X7_holds l D k  aM H.size Mestimate Munit Msort Mwidth Mmany Mreading Mvariance Mcovariance Mline Mformulas Mroot Mkind Mone Mother Msigns Mplace MleftOf MrightOf Mtype Msum Msign MsignAt Mproduct Mvalue Mslope Mexponent Mdrawn Mslopes Mfrom Mfactor Mthrown Mlength Mmodels Mopen Mat Mrows Mx s1 r3 thrown_3 hc3) (cwV 1 hts gX7_sensitivity_X7_holds rfl rfl rfl (by decide +kernel) ⟨Nat.le_of_ble_eq_true rfl, Nat.le_of_ble_eq_true rfl⟩) ⟨pw_blind, va_recv hK hP (ci := 7) (q0 := 0) rfl rfl, pw_start hP hK hD⟩ rfl rfl hl.1 rfl (lv_room (Nat.le_of_ble_eq_true rfl)) dX7_sensitivity_21 ⟨Nat.zero_le _, Nat.zero_le _⟩) hS hFc (fun H1 locs hP1 hD1 hk1 hS => ?_)
    obtain ⟨hP, hD⟩ := vj_all hFc hP1 hD1
    clear hP1 hD1 hk1 hFc
    generalize H1 = H at hP hS ⊢
    refine lv_if_ne (tgt := 29) hx hb dX7_sensitivity_24 (by decide) (fun c4 => ?_) (fun c4 => ?_)
    · replace h := sf_f c4 h
      refine lv_aload_n hx hb dX7_sensitivity_29 rfl (lv_at hl 0 rfl) ?_
      refine lv_iload_n hx hb dX7_sensitivity_30 rfl (lv_at hl 1 rfl) ?_
      refine lv_iconst (v := 0) hx hb dX7_sensitivity_31 (by decide) ?_
      obtain ⟨r5, value_5, hc5, h⟩ := bnd2_inv h
      have hFc := va_free (wc := (wM k aM Mestimate Munit Msort Mwidth Mmany Mreading Mvariance Mcovariance Mline Mformulas Mroot Mkind Mone Mother Msigns Mplace MleftOf MrightOf Mtype Msum Msign MsignAt Mproduct Mvalue Mslope Mexponent Mdrawn Mslopes Mfrom Mfactor thrown_3 Mlength Mmodels Mopen Mat Mrows Mx)) hD hS hA [0, 1, 2, 3, 4, 5, 6, 7, 8, 9, 10, 11, 12, 13, 14, 15, 16, 17, 18, 19, 20, 21, 22, 23, 24, 25, 26, 27, 28, 29, 30] rfl
      refine xc_l (va_runV (As := [.int v1, .int 0]) (rest := []) ⟨hx, hb, hml, hown, hts⟩ (met_X7_values l D k  aM H.size Mestimate Munit Msort Mwidth Mmany Mreading Mvariance Mcovariance Mline Mformulas Mroot Mkind Mone Mother Msigns Mplace MleftOf MrightOf Mtype Msum Msign MsignAt Mproduct Mvalue Mslope Mexponent Mdrawn Mslopes Mfrom Mfactor thrown_3 Mlength Mmodels Mopen Mat Mrows Mx v1 0 r5 value_5 hc5) (cwV 2 hts gX7_sensitivity_X7_values rfl rfl rfl (by decide +kernel) ⟨Nat.le_of_ble_eq_true rfl, Nat.le_of_ble_eq_true rfl⟩) ⟨pw_blind, va_recv hK hP (ci := 7) (q0 := 0) rfl rfl, pw_start hP hK hD⟩ rfl rfl hl.1 rfl (lv_room (Nat.le_of_ble_eq_true rfl)) dX7_sensitivity_32 ⟨Nat.zero_le _, Nat.zero_le _⟩) hS hFc (fun H1 locs hP1 hD1 hk1 hS => ?_)
      obtain ⟨hP, hD⟩ := vj_all hFc hP1 hD1
      clear hP1 hD1 hk1 hFc
      generalize H1 = H at hP hS ⊢
      refine lv_pop2_2 hx hb dX7_sensitivity_35 rfl ?_
      refine lv_aload_n hx hb dX7_sensitivity_36 rfl (lv_at hl 0 rfl) ?_
      refine lv_iload_n hx hb dX7_sensitivity_37 rfl (lv_at hl 1 rfl) ?_
      refine lv_iload_n hx hb dX7_sensitivity_38 rfl (lv_at hl 2 rfl) ?_
      obtain ⟨r6, slope_6, hc6, h⟩ := bnd2_inv h
      have hFc := va_free (wc := (wM k aM Mestimate Munit Msort Mwidth Mmany Mreading Mvariance Mcovariance Mline Mformulas Mroot Mkind Mone Mother Msigns Mplace MleftOf MrightOf Mtype Msum Msign MsignAt Mproduct value_5 Mslope Mexponent Mdrawn Mslopes Mfrom Mfactor thrown_3 Mlength Mmodels Mopen Mat Mrows Mx)) hD hS hA [0, 1, 2, 3, 4, 5, 6, 7, 8, 9, 10, 11, 12, 13, 14, 15, 16, 17, 18, 19, 20, 21, 22, 23, 24, 25, 26, 27, 28, 29, 30] rfl
      refine xc_l (va_runV (As := [.int v1, .int v2]) (rest := []) ⟨hx, hb, hml, hown, hts⟩ (met_X7_slopeOf l D k  aM H.size Mestimate Munit Msort Mwidth Mmany Mreading Mvariance Mcovariance Mline Mformulas Mroot Mkind Mone Mother Msigns Mplace MleftOf MrightOf Mtype Msum Msign MsignAt Mproduct value_5 Mslope Mexponent Mdrawn Mslopes Mfrom Mfactor thrown_3 Mlength Mmodels Mopen Mat Mrows Mx v1 v2 r6 slope_6 hc6) (cwV 2 hts gX7_sensitivity_X7_slopeOf rfl rfl rfl (by decide +kernel) ⟨Nat.le_of_ble_eq_true rfl, Nat.le_of_ble_eq_true rfl⟩) ⟨pw_blind, va_recv hK hP (ci := 7) (q0 := 0) rfl rfl, pw_start hP hK hD⟩ rfl rfl hl.1 rfl (lv_room (Nat.le_of_ble_eq_true rfl)) dX7_sensitivity_39 ⟨Nat.zero_le _, Nat.zero_le _⟩) hS hFc (fun H1 locs hP1 hD1 hk1 hS => ?_)
      obtain ⟨hP, hD⟩ := vj_all hFc hP1 hD1
      clear hP1 hD1 hk1 hFc
      generalize H1 = H at hP hS ⊢
      have hP9 := hP
      have hD9 := hD
      have hS9 := hS
      subst hQ
      cases h
      exact W.lret hx hb hr (fun t ht hW => ⟨⟨_, (), rfl, rfl, by rw [ht]; exact hP9, va_K.moved hW.alike hK, hD9⟩, hS9.F ht⟩) hS9.2.2 dX7_sensitivity_42
    · replace h := sf_t c4 h
      refine lv_lconst (v := 0) hx hb dX7_sensitivity_27 (by decide) ?_
      have hP9 := hP
      have hD9 := hD
      have hS9 := hS
      subst hQ
      cases h
      exact W.lret hx hb hr (fun t ht hW => ⟨⟨_, (), rfl, rfl, by rw [ht]; exact hP9, va_K.moved hW.alike hK, hD9⟩, hS9.F ht⟩) hS9.2.2 dX7_sensitivity_28
  have BH_20 : ∀ (Mvalue : Nat → Int64) (Mslope : Nat → Int64) (Mthrown : Int32), BX7_sensitivity_20 Mestimate Mformulas Mroot Mkind Mone Mother Mdrawn Mmodels v1 v2 Mvalue Mslope Mthrown = some (r, RMvalue, RMslope, RMthrown) → ∀ (H : Heap) (locs : List Loc) (ls : Array Slot), va_P D vwCl (wM k aM Mestimate Munit Msort Mwidth Mmany Mreading Mvariance Mcovariance Mline Mformulas Mroot Mkind Mone Mother Msigns Mplace MleftOf MrightOf Mtype Msum Msign MsignAt Mproduct Mvalue Mslope Mexponent Mdrawn Mslopes Mfrom Mfactor Mthrown Mlength Mmodels Mopen Mat Mrows Mx) H → va_D A (wM k aM Mestimate Munit Msort Mwidth Mmany Mreading Mvariance Mcovariance Mline Mformulas Mroot Mkind Mone Mother Msigns Mplace MleftOf MrightOf Mtype Msum Msign MsignAt Mproduct Mvalue Mslope Mexponent Mdrawn Mslopes Mfrom Mfactor Mthrown Mlength Mmodels Mopen Mat Mrows Mx) → va_S A s.heap H locs → lv_has ls 3 [(0, .ref (aM 0)), (1, .int v1), (2, .int v2)] → W p l e rmX7_sensitivity s m args below meth c H locs 0 0 Q (F0 m 20 ls [.ref (aM 0)]) := by
    intro  Mvalue Mslope Mthrown h H locs ls hP hD hS hl
    unfold BX7_sensitivity_20 at h
    refine lv_iconst (v := 1) hx hb dX7_sensitivity_20 (by decide) ?_
    exact BH_21  _ _ _ _ h _ _ _ hP hD hS (lv_sub hl [0, 1, 2] rfl)
  suffices main : ∀ (H : Heap) (locs : List Loc) (ls : Array Slot), va_P D vwCl (wM k aM Mestimate Munit Msort Mwidth Mmany Mreading Mvariance Mcovariance Mline Mformulas Mroot Mkind Mone Mother Msigns Mplace MleftOf MrightOf Mtype Msum Msign MsignAt Mproduct Mvalue Mslope Mexponent Mdrawn Mslopes Mfrom Mfactor Mthrown Mlength Mmodels Mopen Mat Mrows Mx) H → va_D A (wM k aM Mestimate Munit Msort Mwidth Mmany Mreading Mvariance Mcovariance Mline Mformulas Mroot Mkind Mone Mother Msigns Mplace MleftOf MrightOf Mtype Msum Msign MsignAt Mproduct Mvalue Mslope Mexponent Mdrawn Mslopes Mfrom Mfactor Mthrown Mlength Mmodels Mopen Mat Mrows Mx) → va_S A s.heap H locs → lv_has ls 3 [(0, .ref (aM 0)), (1, .int v1), (2, .int v2)] → W p l e rmX7_sensitivity s m args below meth c H locs 0 0 Q (F0 m 0 ls []) from main _ _ _ hP hD hS hl
  clear hP hD hS hl ls hAe
  intro H locs ls hP hD hS hl
  refine lv_aload_n hx hb dX7_sensitivity_0 rfl (lv_at hl 0 rfl) ?_
  refine lv_aload_n hx hb dX7_sensitivity_1 rfl (lv_at hl 0 rfl) ?_
  refine lv_iload_n hx hb dX7_sensitivity_2 rfl (lv_at hl 1 rfl) ?_
  obtain ⟨r1, hc1, h⟩ := bnd1_inv h
  have hFc := va_free (wc := (wM k aM Mestimate Munit Msort Mwidth Mmany Mreading Mvariance Mcovariance Mline Mformulas Mroot Mkind Mone Mother Msigns Mplace MleftOf MrightOf Mtype Msum Msign MsignAt Mproduct Mvalue Mslope Mexponent Mdrawn Mslopes Mfrom Mfactor Mthrown Mlength Mmodels Mopen Mat Mrows Mx)) hD hS hA [0, 1, 2, 3, 4, 5, 6, 7, 8, 9, 10, 11, 12, 13, 14, 15, 16, 17, 18, 19, 20, 21, 22, 23, 24, 25, 26, 27, 28, 29, 30] rfl
  refine xc_i (va_runV (As := [.int v1]) (rest := [.ref (aM 0)]) ⟨hx, hb, hml, hown, hts⟩ (met_X7_isModel l D k  aM H.size Mestimate Munit Msort Mwidth Mmany Mreading Mvariance Mcovariance Mline Mformulas Mroot Mkind Mone Mother Msigns Mplace MleftOf MrightOf Mtype Msum Msign MsignAt Mproduct Mvalue Mslope Mexponent Mdrawn Mslopes Mfrom Mfactor Mthrown Mlength Mmodels Mopen Mat Mrows Mx v1 r1 hc1) (cwV 1 hts gX7_sensitivity_X7_isModel rfl rfl rfl (by decide +kernel) ⟨Nat.le_of_ble_eq_true rfl, Nat.le_of_ble_eq_true rfl⟩) ⟨pw_blind, va_recv hK hP (ci := 7) (q0 := 0) rfl rfl, pw_start hP hK hD⟩ rfl rfl hl.1 rfl (lv_room (Nat.le_of_ble_eq_true rfl)) dX7_sensitivity_3 ⟨Nat.zero_le _, Nat.zero_le _⟩) hS hFc (fun H1 locs hP1 hD1 hk1 hS => ?_)
  obtain ⟨hP, hD⟩ := vj_all hFc hP1 hD1
  clear hP1 hD1 hk1 hFc
  generalize H1 = H at hP hS ⊢
  refine lv_if_eq (tgt := 20) hx hb dX7_sensitivity_6 (by decide) (fun c2 => ?_) (fun c2 => ?_)
  · replace h := sf_t c2 h
    exact BH_20  _ _ _ h _ _ _ hP hD hS (lv_sub hl [0, 1, 2] rfl)
  · replace h := sf_f c2 h
    refine lv_iload_n hx hb dX7_sensitivity_9 rfl (lv_at hl 2 rfl) ?_
    obtain ⟨r7, hc7, h⟩ := bnd1_inv h
    have hPc := hP.sub (ws' := ([] : va_W)) [] rfl
    have hDc := hD.sub (ws' := ([] : va_W)) [] rfl rfl
    have hFc := va_free (wc := ([] : va_W)) hD hS hA [] rfl
    refine xc_i (va_runS (As := [.int v2]) (rest := [.ref (aM 0)]) ⟨hx, hb, hml, hown, hts⟩ (met_X7_isInput l D k  H.size v2 r7 hc7) (va_cwS 1 hts gX7_sensitivity_X7_isInput rfl rfl rfl (by decide +kernel) ⟨Nat.le_of_ble_eq_true rfl, Nat.le_of_ble_eq_true rfl⟩) ⟨pw_blind, pw_start hPc hK hDc⟩ rfl rfl hl.1 rfl (lv_room (Nat.le_of_ble_eq_true rfl)) dX7_sensitivity_10 ⟨Nat.zero_le _, Nat.zero_le _⟩) hS hFc (fun H1 locs hP1 hD1 hk1 hS => ?_)
    obtain ⟨hP, hD⟩ := vj (ws' := (wM k aM Mestimate Munit Msort Mwidth Mmany Mreading Mvariance Mcovariance Mline Mformulas Mroot Mkind Mone Mother Msigns Mplace MleftOf MrightOf Mtype Msum Msign MsignAt Mproduct Mvalue Mslope Mexponent Mdrawn Mslopes Mfrom Mfactor Mthrown Mlength Mmodels Mopen Mat Mrows Mx)) (w1 := ([] : va_W)) hP hD [] [0, 1, 2, 3, 4, 5, 6, 7, 8, 9, 10, 11, 12, 13, 14, 15, 16, 17, 18, 19, 20, 21, 22, 23, 24, 25, 26, 27, 28, 29, 30] [0, 1, 2, 3, 4, 5, 6, 7, 8, 9, 10, 11, 12, 13, 14, 15, 16, 17, 18, 19, 20, 21, 22, 23, 24, 25, 26, 27, 28, 29, 30] rfl rfl rfl rfl rfl hk1 hFc hP1 hD1
    clear hP1 hD1 hk1 hFc
    generalize H1 = H at hP hS ⊢
    refine lv_if_eq (tgt := 20) hx hb dX7_sensitivity_13 (by decide) (fun c8 => ?_) (fun c8 => ?_)
    · replace h := sf_t c8 h
      exact BH_20  _ _ _ h _ _ _ hP hD hS (lv_sub hl [0, 1, 2] rfl)
    · replace h := sf_f c8 h
      refine lv_iconst (v := 0) hx hb dX7_sensitivity_16 (by decide) ?_
      refine lv_goto (tgt := 21) hx hb dX7_sensitivity_17 (by decide) ?_
      exact BH_21  _ _ _ _ h _ _ _ hP hD hS (lv_sub hl [0, 1, 2] rfl)
def fX7_sensitivityAnew (v1 : Int32) (v2 : Int32) (Mestimate : Nat → Int32) (Mformulas : Nat → Int32) (Mroot : Nat → Int32) (Mkind : Nat → Int32) (Mone : Nat → Int32) (Mother : Nat → Int32) (Mvalue : Nat → Int64) (Mslope : Nat → Int64) (Mdrawn : Nat → Int32) (Mthrown : Int32) (Mmodels : Int32) : Option (Int64 × (Nat → Int64) × (Nat → Int64) × Int32) := bnd4 (fX7_sensitivity v1 v2 Mestimate Mformulas Mroot Mkind Mone Mother Mvalue Mslope Mdrawn Mthrown Mmodels) (fun r1 value_1 slope_1 thrown_1 => some (r1, value_1, slope_1, thrown_1))
abbrev rmX7_sensitivityAnew : Room := { frames := 3, cells := 0, slots := 0, locals := 76 }
set_option maxHeartbeats 4000000 in
set_option maxRecDepth 100000 in
theorem met_X7_sensitivityAnew (l : Launch) (D : va_G) (k : Nat → ClassId)  (aM : Nat → Nat) (sz : Nat) (Mestimate : Nat → Int32) (Munit : Nat → Int32) (Msort : Nat → Int32) (Mwidth : Nat → Int32) (Mmany : Nat → Int32) (Mreading : Nat → Int32) (Mvariance : Nat → Int32) (Mcovariance : Nat → Int32) (Mline : Nat → Int32) (Mformulas : Nat → Int32) (Mroot : Nat → Int32) (Mkind : Nat → Int32) (Mone : Nat → Int32) (Mother : Nat → Int32) (Msigns : Nat → Int32) (Mplace : Nat → Int32) (MleftOf : Nat → Int32) (MrightOf : Nat → Int32) (Mtype : Nat → Int32) (Msum : Nat → Int32) (Msign : Nat → Int32) (MsignAt : Nat → Int32) (Mproduct : Nat → Int32) (Mvalue : Nat → Int64) (Mslope : Nat → Int64) (Mexponent : Nat → Int32) (Mdrawn : Nat → Int32) (Mslopes : Nat → Int64) (Mfrom : Nat → Int32) (Mfactor : Nat → Int32) (Mthrown : Int32) (Mlength : Int32) (Mmodels : Int32) (Mopen : Int32) (Mat : Int32) (Mrows : Int32) (Mx : Int32) (v1 : Int32) (v2 : Int32) (r : Int64) (RMvalue : Nat → Int64) (RMslope : Nat → Int64) (RMthrown : Int32) (h : fX7_sensitivityAnew v1 v2 Mestimate Mformulas Mroot Mkind Mone Mother Mvalue Mslope Mdrawn Mthrown Mmodels = some (r, RMvalue, RMslope, RMthrown)) : Met l yX7_sensitivityAnew wsX7_sensitivityAnew rmX7_sensitivityAnew (va_Pc [.ref (aM 0), .int v1, .int v2] (PreW D k (wM k aM Mestimate Munit Msort Mwidth Mmany Mreading Mvariance Mcovariance Mline Mformulas Mroot Mkind Mone Mother Msigns Mplace MleftOf MrightOf Mtype Msum Msign MsignAt Mproduct Mvalue Mslope Mexponent Mdrawn Mslopes Mfrom Mfactor Mthrown Mlength Mmodels Mopen Mat Mrows Mx) sz)) (va_Ql (fun r9 (_ : Unit) => r9 = r) (fun _ t => PostW D k (va_A (wM k aM Mestimate Munit Msort Mwidth Mmany Mreading Mvariance Mcovariance Mline Mformulas Mroot Mkind Mone Mother Msigns Mplace MleftOf MrightOf Mtype Msum Msign MsignAt Mproduct Mvalue Mslope Mexponent Mdrawn Mslopes Mfrom Mfactor Mthrown Mlength Mmodels Mopen Mat Mrows Mx) sz) (wM k aM Mestimate Munit Msort Mwidth Mmany Mreading Mvariance Mcovariance Mline Mformulas Mroot Mkind Mone Mother Msigns Mplace MleftOf MrightOf Mtype Msum Msign MsignAt Mproduct RMvalue RMslope Mexponent Mdrawn Mslopes Mfrom Mfactor RMthrown Mlength Mmodels Mopen Mat Mrows Mx) t) (va_A (wM k aM Mestimate Munit Msort Mwidth Mmany Mreading Mvariance Mcovariance Mline Mformulas Mroot Mkind Mone Mother Msigns Mplace MleftOf MrightOf Mtype Msum Msign MsignAt Mproduct Mvalue Mslope Mexponent Mdrawn Mslopes Mfrom Mfactor Mthrown Mlength Mmodels Mopen Mat Mrows Mx) sz)) 0 0 (va_A (wM k aM Mestimate Munit Msort Mwidth Mmany Mreading Mvariance Mcovariance Mline Mformulas Mroot Mkind Mone Mother Msigns Mplace MleftOf MrightOf Mtype Msum Msign MsignAt Mproduct Mvalue Mslope Mexponent Mdrawn Mslopes Mfrom Mfactor Mthrown Mlength Mmodels Mopen Mat Mrows Mx) sz) := by
  refine Met.ofW (cc := cX7_sensitivityAnew) (maxL := 3) (ret := (some .long)) (by decide) rfl ?_
  intro p e s m args below meth c s₁ B hml hv
  obtain ⟨hav, hsz, hP, hK, hD0⟩ := hv
  have hx := B.exec
  have hb := B.bytes
  have hr := B.returns
  have hts := atoms_spec (ws := wsX7_sensitivityAnew) B.pre
  have hown : s.vm.findClass RX7 = some m.cls := findClass_of_methodNamed B.named
  have hlocks := B.notSynchronized
  subst hsz
  have hD := hD0.self (sz := s.heap.size)
  clear hD0
  generalize hAe : va_A (wM k aM Mestimate Munit Msort Mwidth Mmany Mreading Mvariance Mcovariance Mline Mformulas Mroot Mkind Mone Mother Msigns Mplace MleftOf MrightOf Mtype Msum Msign MsignAt Mproduct Mvalue Mslope Mexponent Mdrawn Mslopes Mfrom Mfactor Mthrown Mlength Mmodels Mopen Mat Mrows Mx) s.heap.size = A at hD ⊢
  have hA : ∀ q : Nat, s.heap.size ≤ q → A q := fun q h => by rw [← hAe]; exact Or.inr h
  have hS : va_S A s.heap s.heap [] := va_S.rf
  have hl := lv_entry ([.ref (aM 0), .int v1, .int v2]) (n := 3) (Nat.le_of_ble_eq_true rfl)
  rw [show entryFrame m args 3 = entryFrame m ([.ref (aM 0), .int v1, .int v2] : List Value).toArray 3 from by rw [hav], lg_entry_eq]
  generalize (lg_sl ([.ref (aM 0), .int v1, .int v2]) ++ List.replicate (3 - (lg_sl ([.ref (aM 0), .int v1, .int v2])).length) Slot.unset).toArray = ls at hl ⊢
  replace hl : lv_has ls 3 [(0, .ref (aM 0)), (1, .int v1), (2, .int v2)] := hl
  refine w_q (fun Q hQ => ?_)
  unfold fX7_sensitivityAnew at h
  show W p l e rmX7_sensitivityAnew s m args below meth c s.heap [] 0 0 Q (F0 m 0 ls [])
  suffices main : ∀ (H : Heap) (locs : List Loc) (ls : Array Slot), va_P D vwCl (wM k aM Mestimate Munit Msort Mwidth Mmany Mreading Mvariance Mcovariance Mline Mformulas Mroot Mkind Mone Mother Msigns Mplace MleftOf MrightOf Mtype Msum Msign MsignAt Mproduct Mvalue Mslope Mexponent Mdrawn Mslopes Mfrom Mfactor Mthrown Mlength Mmodels Mopen Mat Mrows Mx) H → va_D A (wM k aM Mestimate Munit Msort Mwidth Mmany Mreading Mvariance Mcovariance Mline Mformulas Mroot Mkind Mone Mother Msigns Mplace MleftOf MrightOf Mtype Msum Msign MsignAt Mproduct Mvalue Mslope Mexponent Mdrawn Mslopes Mfrom Mfactor Mthrown Mlength Mmodels Mopen Mat Mrows Mx) → va_S A s.heap H locs → lv_has ls 3 [(0, .ref (aM 0)), (1, .int v1), (2, .int v2)] → W p l e rmX7_sensitivityAnew s m args below meth c H locs 0 0 Q (F0 m 0 ls []) from main _ _ _ hP hD hS hl
  clear hP hD hS hl ls hAe
  intro H locs ls hP hD hS hl
  refine lv_aload_n hx hb dX7_sensitivityAnew_0 rfl (lv_at hl 0 rfl) ?_
  refine lv_iload_n hx hb dX7_sensitivityAnew_1 rfl (lv_at hl 1 rfl) ?_
  refine lv_iload_n hx hb dX7_sensitivityAnew_2 rfl (lv_at hl 2 rfl) ?_
  obtain ⟨r1, value_1, slope_1, thrown_1, hc1, h⟩ := bnd4_inv h
  have hFc := va_free (wc := (wM k aM Mestimate Munit Msort Mwidth Mmany Mreading Mvariance Mcovariance Mline Mformulas Mroot Mkind Mone Mother Msigns Mplace MleftOf MrightOf Mtype Msum Msign MsignAt Mproduct Mvalue Mslope Mexponent Mdrawn Mslopes Mfrom Mfactor Mthrown Mlength Mmodels Mopen Mat Mrows Mx)) hD hS hA [0, 1, 2, 3, 4, 5, 6, 7, 8, 9, 10, 11, 12, 13, 14, 15, 16, 17, 18, 19, 20, 21, 22, 23, 24, 25, 26, 27, 28, 29, 30] rfl
  refine xc_l (va_runV (As := [.int v1, .int v2]) (rest := []) ⟨hx, hb, hml, hown, hts⟩ (met_X7_sensitivity l D k  aM H.size Mestimate Munit Msort Mwidth Mmany Mreading Mvariance Mcovariance Mline Mformulas Mroot Mkind Mone Mother Msigns Mplace MleftOf MrightOf Mtype Msum Msign MsignAt Mproduct Mvalue Mslope Mexponent Mdrawn Mslopes Mfrom Mfactor Mthrown Mlength Mmodels Mopen Mat Mrows Mx v1 v2 r1 value_1 slope_1 thrown_1 hc1) (cwV 2 hts gX7_sensitivityAnew_X7_sensitivity rfl rfl rfl (by decide +kernel) ⟨Nat.le_of_ble_eq_true rfl, Nat.le_of_ble_eq_true rfl⟩) ⟨pw_blind, va_recv hK hP (ci := 7) (q0 := 0) rfl rfl, pw_start hP hK hD⟩ rfl rfl hl.1 rfl (lv_room (Nat.le_of_ble_eq_true rfl)) dX7_sensitivityAnew_3 ⟨Nat.zero_le _, Nat.zero_le _⟩) hS hFc (fun H1 locs hP1 hD1 hk1 hS => ?_)
  obtain ⟨hP, hD⟩ := vj_all hFc hP1 hD1
  clear hP1 hD1 hk1 hFc
  generalize H1 = H at hP hS ⊢
  have hP9 := hP
  have hD9 := hD
  have hS9 := hS
  subst hQ
  cases h
  exact W.lret hx hb hr (fun t ht hW => ⟨⟨_, (), rfl, rfl, by rw [ht]; exact hP9, va_K.moved hW.alike hK, hD9⟩, hS9.F ht⟩) hS9.2.2 dX7_sensitivityAnew_6
def LX7_laysSlopes_9 (Mestimate : Nat → Int32) (Mformulas : Nat → Int32) (Mroot : Nat → Int32) (Mkind : Nat → Int32) (Mone : Nat → Int32) (Mother : Nat → Int32) (Mdrawn : Nat → Int32) (v1 : Int32) (E33 : (Nat → Int64) → (Nat → Int64) → (Nat → Int64) → Option ((Nat → Int64) × (Nat → Int64) × (Nat → Int64))) : Nat → Int32 → (Nat → Int64) → (Nat → Int64) → (Nat → Int64) → Option ((Nat → Int64) × (Nat → Int64) × (Nat → Int64))
  | 0, _, _, _, _ => none
  | fuel + 1, v2, Mvalue, Mslope, Mslopes => (if 6 ≤ v2 then E33 Mvalue Mslope Mslopes else bnd2 (fX7_slopeOf v1 v2 Mformulas Mroot Mkind Mone Mother Mvalue Mslope) (fun r3 slope_3 => gi v2 6 (LX7_laysSlopes_9 Mestimate Mformulas Mroot Mkind Mone Mother Mdrawn v1 E33 fuel (v2 + 1) Mvalue slope_3 (vp_updL Mslopes (v2.toNatClampNeg) r3))))
def fX7_laysSlopes (v1 : Int32) (Mestimate : Nat → Int32) (Mformulas : Nat → Int32) (Mroot : Nat → Int32) (Mkind : Nat → Int32) (Mone : Nat → Int32) (Mother : Nat → Int32) (Mvalue : Nat → Int64) (Mslope : Nat → Int64) (Mdrawn : Nat → Int32) (Mslopes : Nat → Int64) : Option ((Nat → Int64) × (Nat → Int64) × (Nat → Int64)) := bnd2 (fX7_values v1 0 Mestimate Mformulas Mroot Mkind Mone Mother Mvalue Mdrawn) (fun r1 value_1 => LX7_laysSlopes_9 Mestimate Mformulas Mroot Mkind Mone Mother Mdrawn v1 (fun (Mvalue : Nat → Int64) (Mslope : Nat → Int64) (Mslopes : Nat → Int64) => some (Mvalue, Mslope, Mslopes)) 1000 0 value_1 Mslope Mslopes)
abbrev rmX7_laysSlopes : Room := { frames := 2, cells := 0, slots := 0, locals := 54 }
set_option maxHeartbeats 4000000 in
set_option maxRecDepth 100000 in
theorem met_X7_laysSlopes (l : Launch) (D : va_G) (k : Nat → ClassId)  (aM : Nat → Nat) (sz : Nat) (Mestimate : Nat → Int32) (Munit : Nat → Int32) (Msort : Nat → Int32) (Mwidth : Nat → Int32) (Mmany : Nat → Int32) (Mreading : Nat → Int32) (Mvariance : Nat → Int32) (Mcovariance : Nat → Int32) (Mline : Nat → Int32) (Mformulas : Nat → Int32) (Mroot : Nat → Int32) (Mkind : Nat → Int32) (Mone : Nat → Int32) (Mother : Nat → Int32) (Msigns : Nat → Int32) (Mplace : Nat → Int32) (MleftOf : Nat → Int32) (MrightOf : Nat → Int32) (Mtype : Nat → Int32) (Msum : Nat → Int32) (Msign : Nat → Int32) (MsignAt : Nat → Int32) (Mproduct : Nat → Int32) (Mvalue : Nat → Int64) (Mslope : Nat → Int64) (Mexponent : Nat → Int32) (Mdrawn : Nat → Int32) (Mslopes : Nat → Int64) (Mfrom : Nat → Int32) (Mfactor : Nat → Int32) (Mthrown : Int32) (Mlength : Int32) (Mmodels : Int32) (Mopen : Int32) (Mat : Int32) (Mrows : Int32) (Mx : Int32) (v1 : Int32) (RMvalue : Nat → Int64) (RMslope : Nat → Int64) (RMslopes : Nat → Int64) (h : fX7_laysSlopes v1 Mestimate Mformulas Mroot Mkind Mone Mother Mvalue Mslope Mdrawn Mslopes = some (RMvalue, RMslope, RMslopes)) : Met l yX7_laysSlopes wsX7_laysSlopes rmX7_laysSlopes (va_Pc [.ref (aM 0), .int v1] (PreW D k (wM k aM Mestimate Munit Msort Mwidth Mmany Mreading Mvariance Mcovariance Mline Mformulas Mroot Mkind Mone Mother Msigns Mplace MleftOf MrightOf Mtype Msum Msign MsignAt Mproduct Mvalue Mslope Mexponent Mdrawn Mslopes Mfrom Mfactor Mthrown Mlength Mmodels Mopen Mat Mrows Mx) sz)) (va_Qv (fun _ : Unit => True) (fun _ t => PostW D k (va_A (wM k aM Mestimate Munit Msort Mwidth Mmany Mreading Mvariance Mcovariance Mline Mformulas Mroot Mkind Mone Mother Msigns Mplace MleftOf MrightOf Mtype Msum Msign MsignAt Mproduct Mvalue Mslope Mexponent Mdrawn Mslopes Mfrom Mfactor Mthrown Mlength Mmodels Mopen Mat Mrows Mx) sz) (wM k aM Mestimate Munit Msort Mwidth Mmany Mreading Mvariance Mcovariance Mline Mformulas Mroot Mkind Mone Mother Msigns Mplace MleftOf MrightOf Mtype Msum Msign MsignAt Mproduct RMvalue RMslope Mexponent Mdrawn RMslopes Mfrom Mfactor Mthrown Mlength Mmodels Mopen Mat Mrows Mx) t) (va_A (wM k aM Mestimate Munit Msort Mwidth Mmany Mreading Mvariance Mcovariance Mline Mformulas Mroot Mkind Mone Mother Msigns Mplace MleftOf MrightOf Mtype Msum Msign MsignAt Mproduct Mvalue Mslope Mexponent Mdrawn Mslopes Mfrom Mfactor Mthrown Mlength Mmodels Mopen Mat Mrows Mx) sz)) 0 0 (va_A (wM k aM Mestimate Munit Msort Mwidth Mmany Mreading Mvariance Mcovariance Mline Mformulas Mroot Mkind Mone Mother Msigns Mplace MleftOf MrightOf Mtype Msum Msign MsignAt Mproduct Mvalue Mslope Mexponent Mdrawn Mslopes Mfrom Mfactor Mthrown Mlength Mmodels Mopen Mat Mrows Mx) sz) := by
  refine Met.ofW (cc := cX7_laysSlopes) (maxL := 3) (ret := none) (by decide) rfl ?_
  intro p e s m args below meth c s₁ B hml hv
  obtain ⟨hav, hsz, hP, hK, hD0⟩ := hv
  have hx := B.exec
  have hb := B.bytes
  have hr := B.returns
  have hts := atoms_spec (ws := wsX7_laysSlopes) B.pre
  have hown : s.vm.findClass RX7 = some m.cls := findClass_of_methodNamed B.named
  have hlocks := B.notSynchronized
  subst hsz
  have hD := hD0.self (sz := s.heap.size)
  clear hD0
  generalize hAe : va_A (wM k aM Mestimate Munit Msort Mwidth Mmany Mreading Mvariance Mcovariance Mline Mformulas Mroot Mkind Mone Mother Msigns Mplace MleftOf MrightOf Mtype Msum Msign MsignAt Mproduct Mvalue Mslope Mexponent Mdrawn Mslopes Mfrom Mfactor Mthrown Mlength Mmodels Mopen Mat Mrows Mx) s.heap.size = A at hD ⊢
  have hA : ∀ q : Nat, s.heap.size ≤ q → A q := fun q h => by rw [← hAe]; exact Or.inr h
  have hS : va_S A s.heap s.heap [] := va_S.rf
  have hl := lv_entry ([.ref (aM 0), .int v1]) (n := 3) (Nat.le_of_ble_eq_true rfl)
  rw [show entryFrame m args 3 = entryFrame m ([.ref (aM 0), .int v1] : List Value).toArray 3 from by rw [hav], lg_entry_eq]
  generalize (lg_sl ([.ref (aM 0), .int v1]) ++ List.replicate (3 - (lg_sl ([.ref (aM 0), .int v1])).length) Slot.unset).toArray = ls at hl ⊢
  replace hl : lv_has ls 3 [(0, .ref (aM 0)), (1, .int v1)] := hl
  have f92 := hts (.fieldLink RX7 92 "UncertainBookModel" "slopes" "[J") (by decide +kernel)
  have iX7 : ∀ w ∈ u_ws RX7 TX7 37, w ∈ wsX7_laysSlopes := by decide +kernel
  refine w_q (fun Q hQ => ?_)
  unfold fX7_laysSlopes at h
  show W p l e rmX7_laysSlopes s m args below meth c s.heap [] 0 0 Q (F0 m 0 ls [])
  have LH_9 : ∀ (E33 : (Nat → Int64) → (Nat → Int64) → (Nat → Int64) → Option ((Nat → Int64) × (Nat → Int64) × (Nat → Int64))) (hE33 : ∀ (Mvalue : Nat → Int64) (Mslope : Nat → Int64) (Mslopes : Nat → Int64), E33 Mvalue Mslope Mslopes = some (RMvalue, RMslope, RMslopes) → ∀ (H : Heap) (locs : List Loc) (ls : Array Slot), va_P D vwCl (wM k aM Mestimate Munit Msort Mwidth Mmany Mreading Mvariance Mcovariance Mline Mformulas Mroot Mkind Mone Mother Msigns Mplace MleftOf MrightOf Mtype Msum Msign MsignAt Mproduct Mvalue Mslope Mexponent Mdrawn Mslopes Mfrom Mfactor Mthrown Mlength Mmodels Mopen Mat Mrows Mx) H → va_D A (wM k aM Mestimate Munit Msort Mwidth Mmany Mreading Mvariance Mcovariance Mline Mformulas Mroot Mkind Mone Mother Msigns Mplace MleftOf MrightOf Mtype Msum Msign MsignAt Mproduct Mvalue Mslope Mexponent Mdrawn Mslopes Mfrom Mfactor Mthrown Mlength Mmodels Mopen Mat Mrows Mx) → va_S A s.heap H locs → lv_has ls 3 [] → W p l e rmX7_laysSlopes s m args below meth c H locs 0 0 Q (F0 m 33 ls [])) (n : Nat) (v2 : Int32) (Mvalue : Nat → Int64) (Mslope : Nat → Int64) (Mslopes : Nat → Int64), LX7_laysSlopes_9 Mestimate Mformulas Mroot Mkind Mone Mother Mdrawn v1 E33 n v2 Mvalue Mslope Mslopes = some (RMvalue, RMslope, RMslopes) → ∀ (H : Heap) (locs : List Loc) (ls : Array Slot), va_P D vwCl (wM k aM Mestimate Munit Msort Mwidth Mmany Mreading Mvariance Mcovariance Mline Mformulas Mroot Mkind Mone Mother Msigns Mplace MleftOf MrightOf Mtype Msum Msign MsignAt Mproduct Mvalue Mslope Mexponent Mdrawn Mslopes Mfrom Mfactor Mthrown Mlength Mmodels Mopen Mat Mrows Mx) H → va_D A (wM k aM Mestimate Munit Msort Mwidth Mmany Mreading Mvariance Mcovariance Mline Mformulas Mroot Mkind Mone Mother Msigns Mplace MleftOf MrightOf Mtype Msum Msign MsignAt Mproduct Mvalue Mslope Mexponent Mdrawn Mslopes Mfrom Mfactor Mthrown Mlength Mmodels Mopen Mat Mrows Mx) → va_S A s.heap H locs → lv_has ls 3 [(0, .ref (aM 0)), (1, .int v1), (2, .int v2)] → W p l e rmX7_laysSlopes s m args below meth c H locs 0 0 Q (F0 m 9 ls []) := by
    intro E33 hE33 n
    induction n with
    | zero => intro v2 Mvalue Mslope Mslopes h; simp [LX7_laysSlopes_9] at h
    | succ n ih =>
    intro v2 Mvalue Mslope Mslopes h H locs ls hP hD hS hl
    rw [LX7_laysSlopes_9] at h
    refine lv_iload_n hx hb dX7_laysSlopes_9 rfl (lv_at hl 2 rfl) ?_
    refine lv_bipush (v := 6) hx hb dX7_laysSlopes_10 (by decide) ?_
    refine lv_icmp_ge (tgt := 33) hx hb dX7_laysSlopes_12 (by decide) (fun c2 => ?_) (fun c2 => ?_)
    · replace h := sf_t c2 h
      exact hE33 _ _ _ h _ _ _ hP hD hS (lv_sub hl [] rfl)
    · replace h := sf_f c2 h
      refine lv_aload_n hx hb dX7_laysSlopes_15 rfl (lv_at hl 0 rfl) ?_
      refine va_get (D := D) (ci := 7) (v := .ref (aM 28)) (C := RX7) (T := TX7) (N := 37) hx hb hts iX7 hown hK hP 0 rfl rfl 32 (by decide) f92 (fun _ h9 => h9) rfl dX7_laysSlopes_16 ?_
      refine lv_iload_n hx hb dX7_laysSlopes_19 rfl (lv_at hl 2 rfl) ?_
      refine lv_aload_n hx hb dX7_laysSlopes_20 rfl (lv_at hl 0 rfl) ?_
      refine lv_iload_n hx hb dX7_laysSlopes_21 rfl (lv_at hl 1 rfl) ?_
      refine lv_iload_n hx hb dX7_laysSlopes_22 rfl (lv_at hl 2 rfl) ?_
      obtain ⟨r3, slope_3, hc3, h⟩ := bnd2_inv h
      have hFc := va_free (wc := (wM k aM Mestimate Munit Msort Mwidth Mmany Mreading Mvariance Mcovariance Mline Mformulas Mroot Mkind Mone Mother Msigns Mplace MleftOf MrightOf Mtype Msum Msign MsignAt Mproduct Mvalue Mslope Mexponent Mdrawn Mslopes Mfrom Mfactor Mthrown Mlength Mmodels Mopen Mat Mrows Mx)) hD hS hA [0, 1, 2, 3, 4, 5, 6, 7, 8, 9, 10, 11, 12, 13, 14, 15, 16, 17, 18, 19, 20, 21, 22, 23, 24, 25, 26, 27, 28, 29, 30] rfl
      refine xc_l (va_runV (As := [.int v1, .int v2]) (rest := [.int v2, .ref (aM 28)]) ⟨hx, hb, hml, hown, hts⟩ (met_X7_slopeOf l D k  aM H.size Mestimate Munit Msort Mwidth Mmany Mreading Mvariance Mcovariance Mline Mformulas Mroot Mkind Mone Mother Msigns Mplace MleftOf MrightOf Mtype Msum Msign MsignAt Mproduct Mvalue Mslope Mexponent Mdrawn Mslopes Mfrom Mfactor Mthrown Mlength Mmodels Mopen Mat Mrows Mx v1 v2 r3 slope_3 hc3) (cwV 2 hts gX7_laysSlopes_X7_slopeOf rfl rfl rfl (by decide +kernel) ⟨Nat.le_of_ble_eq_true rfl, Nat.le_of_ble_eq_true rfl⟩) ⟨pw_blind, va_recv hK hP (ci := 7) (q0 := 0) rfl rfl, pw_start hP hK hD⟩ rfl rfl hl.1 rfl (lv_room (Nat.le_of_ble_eq_true rfl)) dX7_laysSlopes_23 ⟨Nat.zero_le _, Nat.zero_le _⟩) hS hFc (fun H1 locs hP1 hD1 hk1 hS => ?_)
      obtain ⟨hP, hD⟩ := vj_all hFc hP1 hD1
      clear hP1 hD1 hk1 hFc
      generalize H1 = H at hP hS ⊢
      obtain ⟨hi4, h⟩ := gi_inv h
      refine va_last hx hb hK hP hD hS 28 1 rfl rfl hi4 dX7_laysSlopes_26 (fun H locs hP hD hS => ?_)
      replace hP : va_P D vwCl (wM k aM Mestimate Munit Msort Mwidth Mmany Mreading Mvariance Mcovariance Mline Mformulas Mroot Mkind Mone Mother Msigns Mplace MleftOf MrightOf Mtype Msum Msign MsignAt Mproduct Mvalue slope_3 Mexponent Mdrawn (vp_updL Mslopes (v2.toNatClampNeg) r3) Mfrom Mfactor Mthrown Mlength Mmodels Mopen Mat Mrows Mx) H := hP
      replace hD : va_D A (wM k aM Mestimate Munit Msort Mwidth Mmany Mreading Mvariance Mcovariance Mline Mformulas Mroot Mkind Mone Mother Msigns Mplace MleftOf MrightOf Mtype Msum Msign MsignAt Mproduct Mvalue slope_3 Mexponent Mdrawn (vp_updL Mslopes (v2.toNatClampNeg) r3) Mfrom Mfactor Mthrown Mlength Mmodels Mopen Mat Mrows Mx) := hD
      refine lv_iinc (v := v2 + 1) (lv' := [(2, .int (v2 + 1)), (0, .ref (aM 0)), (1, .int v1)]) hx hb dX7_laysSlopes_27 hl (k := 2) rfl rfl (by decide) rfl (fun ls hl => ?_)
      refine lv_goto (tgt := 9) hx hb dX7_laysSlopes_30 (by decide) ?_
      exact ih _ _ _ _ h _ _ _ hP hD hS (lv_sub hl [1, 2, 0] rfl)
  suffices main : ∀ (H : Heap) (locs : List Loc) (ls : Array Slot), va_P D vwCl (wM k aM Mestimate Munit Msort Mwidth Mmany Mreading Mvariance Mcovariance Mline Mformulas Mroot Mkind Mone Mother Msigns Mplace MleftOf MrightOf Mtype Msum Msign MsignAt Mproduct Mvalue Mslope Mexponent Mdrawn Mslopes Mfrom Mfactor Mthrown Mlength Mmodels Mopen Mat Mrows Mx) H → va_D A (wM k aM Mestimate Munit Msort Mwidth Mmany Mreading Mvariance Mcovariance Mline Mformulas Mroot Mkind Mone Mother Msigns Mplace MleftOf MrightOf Mtype Msum Msign MsignAt Mproduct Mvalue Mslope Mexponent Mdrawn Mslopes Mfrom Mfactor Mthrown Mlength Mmodels Mopen Mat Mrows Mx) → va_S A s.heap H locs → lv_has ls 3 [(0, .ref (aM 0)), (1, .int v1)] → W p l e rmX7_laysSlopes s m args below meth c H locs 0 0 Q (F0 m 0 ls []) from main _ _ _ hP hD hS hl
  clear hP hD hS hl ls hAe
  intro H locs ls hP hD hS hl
  refine lv_aload_n hx hb dX7_laysSlopes_0 rfl (lv_at hl 0 rfl) ?_
  refine lv_iload_n hx hb dX7_laysSlopes_1 rfl (lv_at hl 1 rfl) ?_
  refine lv_iconst (v := 0) hx hb dX7_laysSlopes_2 (by decide) ?_
  obtain ⟨r1, value_1, hc1, h⟩ := bnd2_inv h
  have hFc := va_free (wc := (wM k aM Mestimate Munit Msort Mwidth Mmany Mreading Mvariance Mcovariance Mline Mformulas Mroot Mkind Mone Mother Msigns Mplace MleftOf MrightOf Mtype Msum Msign MsignAt Mproduct Mvalue Mslope Mexponent Mdrawn Mslopes Mfrom Mfactor Mthrown Mlength Mmodels Mopen Mat Mrows Mx)) hD hS hA [0, 1, 2, 3, 4, 5, 6, 7, 8, 9, 10, 11, 12, 13, 14, 15, 16, 17, 18, 19, 20, 21, 22, 23, 24, 25, 26, 27, 28, 29, 30] rfl
  refine xc_l (va_runV (As := [.int v1, .int 0]) (rest := []) ⟨hx, hb, hml, hown, hts⟩ (met_X7_values l D k  aM H.size Mestimate Munit Msort Mwidth Mmany Mreading Mvariance Mcovariance Mline Mformulas Mroot Mkind Mone Mother Msigns Mplace MleftOf MrightOf Mtype Msum Msign MsignAt Mproduct Mvalue Mslope Mexponent Mdrawn Mslopes Mfrom Mfactor Mthrown Mlength Mmodels Mopen Mat Mrows Mx v1 0 r1 value_1 hc1) (cwV 2 hts gX7_laysSlopes_X7_values rfl rfl rfl (by decide +kernel) ⟨Nat.le_of_ble_eq_true rfl, Nat.le_of_ble_eq_true rfl⟩) ⟨pw_blind, va_recv hK hP (ci := 7) (q0 := 0) rfl rfl, pw_start hP hK hD⟩ rfl rfl hl.1 rfl (lv_room (Nat.le_of_ble_eq_true rfl)) dX7_laysSlopes_3 ⟨Nat.zero_le _, Nat.zero_le _⟩) hS hFc (fun H1 locs hP1 hD1 hk1 hS => ?_)
  obtain ⟨hP, hD⟩ := vj_all hFc hP1 hD1
  clear hP1 hD1 hk1 hFc
  generalize H1 = H at hP hS ⊢
  refine lv_pop2_2 hx hb dX7_laysSlopes_6 rfl ?_
  refine lv_iconst (v := 0) hx hb dX7_laysSlopes_7 (by decide) ?_
  refine lv_istore_n (lv' := [(2, .int 0), (0, .ref (aM 0)), (1, .int v1)]) hx hb dX7_laysSlopes_8 rfl hl (by decide) rfl (fun ls hl => ?_)
  refine LH_9 _ (fun Mvalue Mslope Mslopes h H locs ls hP hD hS hl => ?_) _ _ _ _ _ h _ _ _ hP hD hS (lv_sub hl [1, 2, 0] rfl)
  · skip
    have hP9 := hP
    have hD9 := hD
    have hS9 := hS
    subst hQ
    cases h
    exact W.vret hx hb hr (fun t ht hW => ⟨⟨(), rfl, trivial, by rw [ht]; exact hP9, va_K.moved hW.alike hK, hD9⟩, hS9.F ht⟩) hS9.2.2 dX7_laysSlopes_33
def fX7_part (v1 : Int32) (Mvariance : Nat → Int32) (Mslopes : Nat → Int64) : Option (Int64) := gi v1 6 (gi v1 6 (gi v1 6 (some (((Mslopes v1.toNatClampNeg) * (Mslopes v1.toNatClampNeg)) * ((Mvariance v1.toNatClampNeg).toInt64)))))
abbrev rmX7_part : Room := { frames := 0, cells := 0, slots := 0, locals := 0 }
set_option maxHeartbeats 4000000 in
set_option maxRecDepth 100000 in
theorem met_X7_part (l : Launch) (D : va_G) (k : Nat → ClassId)  (aM : Nat → Nat) (sz : Nat) (Mestimate : Nat → Int32) (Munit : Nat → Int32) (Msort : Nat → Int32) (Mwidth : Nat → Int32) (Mmany : Nat → Int32) (Mreading : Nat → Int32) (Mvariance : Nat → Int32) (Mcovariance : Nat → Int32) (Mline : Nat → Int32) (Mformulas : Nat → Int32) (Mroot : Nat → Int32) (Mkind : Nat → Int32) (Mone : Nat → Int32) (Mother : Nat → Int32) (Msigns : Nat → Int32) (Mplace : Nat → Int32) (MleftOf : Nat → Int32) (MrightOf : Nat → Int32) (Mtype : Nat → Int32) (Msum : Nat → Int32) (Msign : Nat → Int32) (MsignAt : Nat → Int32) (Mproduct : Nat → Int32) (Mvalue : Nat → Int64) (Mslope : Nat → Int64) (Mexponent : Nat → Int32) (Mdrawn : Nat → Int32) (Mslopes : Nat → Int64) (Mfrom : Nat → Int32) (Mfactor : Nat → Int32) (Mthrown : Int32) (Mlength : Int32) (Mmodels : Int32) (Mopen : Int32) (Mat : Int32) (Mrows : Int32) (Mx : Int32) (v1 : Int32) (r : Int64) (h : fX7_part v1 Mvariance Mslopes = some r) : Met l yX7_part wsX7_part rmX7_part (va_Pc [.ref (aM 0), .int v1] (PreW D k (wM k aM Mestimate Munit Msort Mwidth Mmany Mreading Mvariance Mcovariance Mline Mformulas Mroot Mkind Mone Mother Msigns Mplace MleftOf MrightOf Mtype Msum Msign MsignAt Mproduct Mvalue Mslope Mexponent Mdrawn Mslopes Mfrom Mfactor Mthrown Mlength Mmodels Mopen Mat Mrows Mx) sz)) (va_Ql (fun r9 (_ : Unit) => r9 = r) (fun _ t => PostW D k (va_A (wM k aM Mestimate Munit Msort Mwidth Mmany Mreading Mvariance Mcovariance Mline Mformulas Mroot Mkind Mone Mother Msigns Mplace MleftOf MrightOf Mtype Msum Msign MsignAt Mproduct Mvalue Mslope Mexponent Mdrawn Mslopes Mfrom Mfactor Mthrown Mlength Mmodels Mopen Mat Mrows Mx) sz) (wM k aM Mestimate Munit Msort Mwidth Mmany Mreading Mvariance Mcovariance Mline Mformulas Mroot Mkind Mone Mother Msigns Mplace MleftOf MrightOf Mtype Msum Msign MsignAt Mproduct Mvalue Mslope Mexponent Mdrawn Mslopes Mfrom Mfactor Mthrown Mlength Mmodels Mopen Mat Mrows Mx) t) (va_A (wM k aM Mestimate Munit Msort Mwidth Mmany Mreading Mvariance Mcovariance Mline Mformulas Mroot Mkind Mone Mother Msigns Mplace MleftOf MrightOf Mtype Msum Msign MsignAt Mproduct Mvalue Mslope Mexponent Mdrawn Mslopes Mfrom Mfactor Mthrown Mlength Mmodels Mopen Mat Mrows Mx) sz)) 0 0 (va_A (wM k aM Mestimate Munit Msort Mwidth Mmany Mreading Mvariance Mcovariance Mline Mformulas Mroot Mkind Mone Mother Msigns Mplace MleftOf MrightOf Mtype Msum Msign MsignAt Mproduct Mvalue Mslope Mexponent Mdrawn Mslopes Mfrom Mfactor Mthrown Mlength Mmodels Mopen Mat Mrows Mx) sz) := by
  refine Met.ofW (cc := cX7_part) (maxL := 2) (ret := (some .long)) (by decide) rfl ?_
  intro p e s m args below meth c s₁ B hml hv
  obtain ⟨hav, hsz, hP, hK, hD0⟩ := hv
  have hx := B.exec
  have hb := B.bytes
  have hr := B.returns
  have hts := atoms_spec (ws := wsX7_part) B.pre
  have hown : s.vm.findClass RX7 = some m.cls := findClass_of_methodNamed B.named
  have hlocks := B.notSynchronized
  subst hsz
  have hD := hD0.self (sz := s.heap.size)
  clear hD0
  generalize hAe : va_A (wM k aM Mestimate Munit Msort Mwidth Mmany Mreading Mvariance Mcovariance Mline Mformulas Mroot Mkind Mone Mother Msigns Mplace MleftOf MrightOf Mtype Msum Msign MsignAt Mproduct Mvalue Mslope Mexponent Mdrawn Mslopes Mfrom Mfactor Mthrown Mlength Mmodels Mopen Mat Mrows Mx) s.heap.size = A at hD ⊢
  have hA : ∀ q : Nat, s.heap.size ≤ q → A q := fun q h => by rw [← hAe]; exact Or.inr h
  have hS : va_S A s.heap s.heap [] := va_S.rf
  have hl := lv_entry ([.ref (aM 0), .int v1]) (n := 2) (Nat.le_of_ble_eq_true rfl)
  rw [show entryFrame m args 2 = entryFrame m ([.ref (aM 0), .int v1] : List Value).toArray 2 from by rw [hav], lg_entry_eq]
  generalize (lg_sl ([.ref (aM 0), .int v1]) ++ List.replicate (2 - (lg_sl ([.ref (aM 0), .int v1])).length) Slot.unset).toArray = ls at hl ⊢
  replace hl : lv_has ls 2 [(0, .ref (aM 0)), (1, .int v1)] := hl
  have f28 := hts (.fieldLink RX7 28 "UncertainBookModel" "variance" "[I") (by decide +kernel)
  have f92 := hts (.fieldLink RX7 92 "UncertainBookModel" "slopes" "[J") (by decide +kernel)
  have iX7 : ∀ w ∈ u_ws RX7 TX7 37, w ∈ wsX7_part := by decide +kernel
  refine w_q (fun Q hQ => ?_)
  unfold fX7_part at h
  show W p l e rmX7_part s m args below meth c s.heap [] 0 0 Q (F0 m 0 ls [])
  suffices main : ∀ (H : Heap) (locs : List Loc) (ls : Array Slot), va_P D vwCl (wM k aM Mestimate Munit Msort Mwidth Mmany Mreading Mvariance Mcovariance Mline Mformulas Mroot Mkind Mone Mother Msigns Mplace MleftOf MrightOf Mtype Msum Msign MsignAt Mproduct Mvalue Mslope Mexponent Mdrawn Mslopes Mfrom Mfactor Mthrown Mlength Mmodels Mopen Mat Mrows Mx) H → va_D A (wM k aM Mestimate Munit Msort Mwidth Mmany Mreading Mvariance Mcovariance Mline Mformulas Mroot Mkind Mone Mother Msigns Mplace MleftOf MrightOf Mtype Msum Msign MsignAt Mproduct Mvalue Mslope Mexponent Mdrawn Mslopes Mfrom Mfactor Mthrown Mlength Mmodels Mopen Mat Mrows Mx) → va_S A s.heap H locs → lv_has ls 2 [(0, .ref (aM 0)), (1, .int v1)] → W p l e rmX7_part s m args below meth c H locs 0 0 Q (F0 m 0 ls []) from main _ _ _ hP hD hS hl
  clear hP hD hS hl ls hAe
  intro H locs ls hP hD hS hl
  refine lv_aload_n hx hb dX7_part_0 rfl (lv_at hl 0 rfl) ?_
  refine va_get (D := D) (ci := 7) (v := .ref (aM 28)) (C := RX7) (T := TX7) (N := 37) hx hb hts iX7 hown hK hP 0 rfl rfl 32 (by decide) f92 (fun _ h9 => h9) rfl dX7_part_1 ?_
  refine lv_iload_n hx hb dX7_part_4 rfl (lv_at hl 1 rfl) ?_
  obtain ⟨hi1, h⟩ := gi_inv h
  refine va_lald hx hb hK hP 28 1 rfl rfl hi1 dX7_part_5 ?_
  refine lv_aload_n hx hb dX7_part_6 rfl (lv_at hl 0 rfl) ?_
  refine va_get (D := D) (ci := 7) (v := .ref (aM 28)) (C := RX7) (T := TX7) (N := 37) hx hb hts iX7 hown hK hP 0 rfl rfl 32 (by decide) f92 (fun _ h9 => h9) rfl dX7_part_7 ?_
  refine lv_iload_n hx hb dX7_part_10 rfl (lv_at hl 1 rfl) ?_
  obtain ⟨hi2, h⟩ := gi_inv h
  refine va_lald hx hb hK hP 28 1 rfl rfl hi2 dX7_part_11 ?_
  refine lv_lmul hx hb dX7_part_12 ?_
  refine lv_aload_n hx hb dX7_part_13 rfl (lv_at hl 0 rfl) ?_
  refine va_get (D := D) (ci := 7) (v := .ref (aM 7)) (C := RX7) (T := TX7) (N := 37) hx hb hts iX7 hown hK hP 0 rfl rfl 7 (by decide) f28 (fun _ h9 => h9) rfl dX7_part_14 ?_
  refine lv_iload_n hx hb dX7_part_17 rfl (lv_at hl 1 rfl) ?_
  obtain ⟨hi3, h⟩ := gi_inv h
  refine va_iald hx hb hK hP 7 0 rfl rfl hi3 dX7_part_18 ?_
  refine lv_i2l hx hb dX7_part_19 rfl ?_
  refine lv_lmul hx hb dX7_part_20 ?_
  have hP9 := hP
  have hD9 := hD
  have hS9 := hS
  subst hQ
  cases h
  exact W.lret hx hb hr (fun t ht hW => ⟨⟨_, (), rfl, rfl, by rw [ht]; exact hP9, va_K.moved hW.alike hK, hD9⟩, hS9.F ht⟩) hS9.2.2 dX7_part_21
def LX7_varianceOf_23 (Mvariance : Nat → Int32) (Mcovariance : Nat → Int32) (Mslopes : Nat → Int64) (E71 : Int64 → Int32 → Option (Int64)) : Nat → Int64 → Int32 → Int32 → Option (Int64)
  | 0, _, _, _ => none
  | fuel + 1, v1, v3, v4 => (if 6 ≤ v4 then E71 v1 v3 else gi v3 6 (gi v4 6 (gi ((6 * v3) + v4) 36 (LX7_varianceOf_23 Mvariance Mcovariance Mslopes E71 fuel (v1 + (2 * (((Mslopes v3.toNatClampNeg) * (Mslopes v4.toNatClampNeg)) * ((Mcovariance ((6 * v3) + v4).toNatClampNeg).toInt64)))) v3 (v4 + 1)))))
def LX7_varianceOf_4 (Mvariance : Nat → Int32) (Mcovariance : Nat → Int32) (Mslopes : Nat → Int64) (E77 : Int64 → Option (Int64)) : Nat → Int64 → Int32 → Option (Int64)
  | 0, _, _ => none
  | fuel + 1, v1, v3 => (if 6 ≤ v3 then E77 v1 else bnd1 (fX7_part v3 Mvariance Mslopes) (fun r2 => LX7_varianceOf_23 Mvariance Mcovariance Mslopes (fun (v1 : Int64) (v3 : Int32) => LX7_varianceOf_4 Mvariance Mcovariance Mslopes E77 fuel v1 (v3 + 1)) 1000 (v1 + r2) v3 (v3 + 1)))
def fX7_varianceOf (Mvariance : Nat → Int32) (Mcovariance : Nat → Int32) (Mslopes : Nat → Int64) : Option (Int64) := LX7_varianceOf_4 Mvariance Mcovariance Mslopes (fun (v1 : Int64) => some (v1)) 1000 0 0
abbrev rmX7_varianceOf : Room := { frames := 1, cells := 0, slots := 0, locals := 21 }
set_option maxHeartbeats 4000000 in
set_option maxRecDepth 100000 in
theorem met_X7_varianceOf (l : Launch) (D : va_G) (k : Nat → ClassId)  (aM : Nat → Nat) (sz : Nat) (Mestimate : Nat → Int32) (Munit : Nat → Int32) (Msort : Nat → Int32) (Mwidth : Nat → Int32) (Mmany : Nat → Int32) (Mreading : Nat → Int32) (Mvariance : Nat → Int32) (Mcovariance : Nat → Int32) (Mline : Nat → Int32) (Mformulas : Nat → Int32) (Mroot : Nat → Int32) (Mkind : Nat → Int32) (Mone : Nat → Int32) (Mother : Nat → Int32) (Msigns : Nat → Int32) (Mplace : Nat → Int32) (MleftOf : Nat → Int32) (MrightOf : Nat → Int32) (Mtype : Nat → Int32) (Msum : Nat → Int32) (Msign : Nat → Int32) (MsignAt : Nat → Int32) (Mproduct : Nat → Int32) (Mvalue : Nat → Int64) (Mslope : Nat → Int64) (Mexponent : Nat → Int32) (Mdrawn : Nat → Int32) (Mslopes : Nat → Int64) (Mfrom : Nat → Int32) (Mfactor : Nat → Int32) (Mthrown : Int32) (Mlength : Int32) (Mmodels : Int32) (Mopen : Int32) (Mat : Int32) (Mrows : Int32) (Mx : Int32)  (r : Int64) (h : fX7_varianceOf Mvariance Mcovariance Mslopes = some r) : Met l yX7_varianceOf wsX7_varianceOf rmX7_varianceOf (va_Pc [.ref (aM 0)] (PreW D k (wM k aM Mestimate Munit Msort Mwidth Mmany Mreading Mvariance Mcovariance Mline Mformulas Mroot Mkind Mone Mother Msigns Mplace MleftOf MrightOf Mtype Msum Msign MsignAt Mproduct Mvalue Mslope Mexponent Mdrawn Mslopes Mfrom Mfactor Mthrown Mlength Mmodels Mopen Mat Mrows Mx) sz)) (va_Ql (fun r9 (_ : Unit) => r9 = r) (fun _ t => PostW D k (va_A (wM k aM Mestimate Munit Msort Mwidth Mmany Mreading Mvariance Mcovariance Mline Mformulas Mroot Mkind Mone Mother Msigns Mplace MleftOf MrightOf Mtype Msum Msign MsignAt Mproduct Mvalue Mslope Mexponent Mdrawn Mslopes Mfrom Mfactor Mthrown Mlength Mmodels Mopen Mat Mrows Mx) sz) (wM k aM Mestimate Munit Msort Mwidth Mmany Mreading Mvariance Mcovariance Mline Mformulas Mroot Mkind Mone Mother Msigns Mplace MleftOf MrightOf Mtype Msum Msign MsignAt Mproduct Mvalue Mslope Mexponent Mdrawn Mslopes Mfrom Mfactor Mthrown Mlength Mmodels Mopen Mat Mrows Mx) t) (va_A (wM k aM Mestimate Munit Msort Mwidth Mmany Mreading Mvariance Mcovariance Mline Mformulas Mroot Mkind Mone Mother Msigns Mplace MleftOf MrightOf Mtype Msum Msign MsignAt Mproduct Mvalue Mslope Mexponent Mdrawn Mslopes Mfrom Mfactor Mthrown Mlength Mmodels Mopen Mat Mrows Mx) sz)) 0 0 (va_A (wM k aM Mestimate Munit Msort Mwidth Mmany Mreading Mvariance Mcovariance Mline Mformulas Mroot Mkind Mone Mother Msigns Mplace MleftOf MrightOf Mtype Msum Msign MsignAt Mproduct Mvalue Mslope Mexponent Mdrawn Mslopes Mfrom Mfactor Mthrown Mlength Mmodels Mopen Mat Mrows Mx) sz) := by
  refine Met.ofW (cc := cX7_varianceOf) (maxL := 5) (ret := (some .long)) (by decide) rfl ?_
  intro p e s m args below meth c s₁ B hml hv
  obtain ⟨hav, hsz, hP, hK, hD0⟩ := hv
  have hx := B.exec
  have hb := B.bytes
  have hr := B.returns
  have hts := atoms_spec (ws := wsX7_varianceOf) B.pre
  have hown : s.vm.findClass RX7 = some m.cls := findClass_of_methodNamed B.named
  have hlocks := B.notSynchronized
  subst hsz
  have hD := hD0.self (sz := s.heap.size)
  clear hD0
  generalize hAe : va_A (wM k aM Mestimate Munit Msort Mwidth Mmany Mreading Mvariance Mcovariance Mline Mformulas Mroot Mkind Mone Mother Msigns Mplace MleftOf MrightOf Mtype Msum Msign MsignAt Mproduct Mvalue Mslope Mexponent Mdrawn Mslopes Mfrom Mfactor Mthrown Mlength Mmodels Mopen Mat Mrows Mx) s.heap.size = A at hD ⊢
  have hA : ∀ q : Nat, s.heap.size ≤ q → A q := fun q h => by rw [← hAe]; exact Or.inr h
  have hS : va_S A s.heap s.heap [] := va_S.rf
  have hl := lv_entry ([.ref (aM 0)]) (n := 5) (Nat.le_of_ble_eq_true rfl)
  rw [show entryFrame m args 5 = entryFrame m ([.ref (aM 0)] : List Value).toArray 5 from by rw [hav], lg_entry_eq]
  generalize (lg_sl ([.ref (aM 0)]) ++ List.replicate (5 - (lg_sl ([.ref (aM 0)])).length) Slot.unset).toArray = ls at hl ⊢
  replace hl : lv_has ls 5 [(0, .ref (aM 0))] := hl
  have f31 := hts (.fieldLink RX7 31 "UncertainBookModel" "covariance" "[I") (by decide +kernel)
  have f92 := hts (.fieldLink RX7 92 "UncertainBookModel" "slopes" "[J") (by decide +kernel)
  have kc206 := hts (.constantLong RX7 206 (2)) (by decide +kernel)
  have iX7 : ∀ w ∈ u_ws RX7 TX7 37, w ∈ wsX7_varianceOf := by decide +kernel
  refine w_q (fun Q hQ => ?_)
  unfold fX7_varianceOf at h
  show W p l e rmX7_varianceOf s m args below meth c s.heap [] 0 0 Q (F0 m 0 ls [])
  have LH_23 : ∀ (E71 : Int64 → Int32 → Option (Int64)) (hE71 : ∀ (v1 : Int64) (v3 : Int32), E71 v1 v3 = some r → ∀ (H : Heap) (locs : List Loc) (ls : Array Slot), va_P D vwCl (wM k aM Mestimate Munit Msort Mwidth Mmany Mreading Mvariance Mcovariance Mline Mformulas Mroot Mkind Mone Mother Msigns Mplace MleftOf MrightOf Mtype Msum Msign MsignAt Mproduct Mvalue Mslope Mexponent Mdrawn Mslopes Mfrom Mfactor Mthrown Mlength Mmodels Mopen Mat Mrows Mx) H → va_D A (wM k aM Mestimate Munit Msort Mwidth Mmany Mreading Mvariance Mcovariance Mline Mformulas Mroot Mkind Mone Mother Msigns Mplace MleftOf MrightOf Mtype Msum Msign MsignAt Mproduct Mvalue Mslope Mexponent Mdrawn Mslopes Mfrom Mfactor Mthrown Mlength Mmodels Mopen Mat Mrows Mx) → va_S A s.heap H locs → lv_has ls 5 [(0, .ref (aM 0)), (1, .long v1), (3, .int v3)] → W p l e rmX7_varianceOf s m args below meth c H locs 0 0 Q (F0 m 71 ls [])) (n : Nat) (v1 : Int64) (v3 : Int32) (v4 : Int32), LX7_varianceOf_23 Mvariance Mcovariance Mslopes E71 n v1 v3 v4 = some r → ∀ (H : Heap) (locs : List Loc) (ls : Array Slot), va_P D vwCl (wM k aM Mestimate Munit Msort Mwidth Mmany Mreading Mvariance Mcovariance Mline Mformulas Mroot Mkind Mone Mother Msigns Mplace MleftOf MrightOf Mtype Msum Msign MsignAt Mproduct Mvalue Mslope Mexponent Mdrawn Mslopes Mfrom Mfactor Mthrown Mlength Mmodels Mopen Mat Mrows Mx) H → va_D A (wM k aM Mestimate Munit Msort Mwidth Mmany Mreading Mvariance Mcovariance Mline Mformulas Mroot Mkind Mone Mother Msigns Mplace MleftOf MrightOf Mtype Msum Msign MsignAt Mproduct Mvalue Mslope Mexponent Mdrawn Mslopes Mfrom Mfactor Mthrown Mlength Mmodels Mopen Mat Mrows Mx) → va_S A s.heap H locs → lv_has ls 5 [(0, .ref (aM 0)), (1, .long v1), (3, .int v3), (4, .int v4)] → W p l e rmX7_varianceOf s m args below meth c H locs 0 0 Q (F0 m 23 ls []) := by
    intro E71 hE71 n
    induction n with
    | zero => intro v1 v3 v4 h; simp [LX7_varianceOf_23] at h
    | succ n ih =>
    intro v1 v3 v4 h H locs ls hP hD hS hl
    rw [LX7_varianceOf_23] at h
    refine lv_iload hx hb dX7_varianceOf_23 (lv_at hl 3 rfl) ?_
    refine lv_bipush (v := 6) hx hb dX7_varianceOf_25 (by decide) ?_
    refine lv_icmp_ge (tgt := 71) hx hb dX7_varianceOf_27 (by decide) (fun c3 => ?_) (fun c3 => ?_)
    · replace h := sf_t c3 h
      exact hE71 _ _ h _ _ _ hP hD hS (lv_sub hl [0, 1, 2] rfl)
    · replace h := sf_f c3 h
      refine lv_lload_n hx hb dX7_varianceOf_30 rfl (lv_at hl 1 rfl) ?_
      refine lv_ldc2 (v := 2) hx hb hown kc206 dX7_varianceOf_31 ?_
      refine lv_aload_n hx hb dX7_varianceOf_34 rfl (lv_at hl 0 rfl) ?_
      refine va_get (D := D) (ci := 7) (v := .ref (aM 28)) (C := RX7) (T := TX7) (N := 37) hx hb hts iX7 hown hK hP 0 rfl rfl 32 (by decide) f92 (fun _ h9 => h9) rfl dX7_varianceOf_35 ?_
      refine lv_iload_n hx hb dX7_varianceOf_38 rfl (lv_at hl 2 rfl) ?_
      obtain ⟨hi4, h⟩ := gi_inv h
      refine va_lald hx hb hK hP 28 1 rfl rfl hi4 dX7_varianceOf_39 ?_
      refine lv_aload_n hx hb dX7_varianceOf_40 rfl (lv_at hl 0 rfl) ?_
      refine va_get (D := D) (ci := 7) (v := .ref (aM 28)) (C := RX7) (T := TX7) (N := 37) hx hb hts iX7 hown hK hP 0 rfl rfl 32 (by decide) f92 (fun _ h9 => h9) rfl dX7_varianceOf_41 ?_
      refine lv_iload hx hb dX7_varianceOf_44 (lv_at hl 3 rfl) ?_
      obtain ⟨hi5, h⟩ := gi_inv h
      refine va_lald hx hb hK hP 28 1 rfl rfl hi5 dX7_varianceOf_46 ?_
      refine lv_lmul hx hb dX7_varianceOf_47 ?_
      refine lv_aload_n hx hb dX7_varianceOf_48 rfl (lv_at hl 0 rfl) ?_
      refine va_get (D := D) (ci := 7) (v := .ref (aM 8)) (C := RX7) (T := TX7) (N := 37) hx hb hts iX7 hown hK hP 0 rfl rfl 8 (by decide) f31 (fun _ h9 => h9) rfl dX7_varianceOf_49 ?_
      refine lv_bipush (v := 6) hx hb dX7_varianceOf_52 (by decide) ?_
      refine lv_iload_n hx hb dX7_varianceOf_54 rfl (lv_at hl 2 rfl) ?_
      refine lv_imul hx hb dX7_varianceOf_55 ?_
      refine lv_iload hx hb dX7_varianceOf_56 (lv_at hl 3 rfl) ?_
      refine lv_iadd hx hb dX7_varianceOf_58 ?_
      obtain ⟨hi6, h⟩ := gi_inv h
      refine va_iald hx hb hK hP 8 0 rfl rfl hi6 dX7_varianceOf_59 ?_
      refine lv_i2l hx hb dX7_varianceOf_60 rfl ?_
      refine lv_lmul hx hb dX7_varianceOf_61 ?_
      refine lv_lmul hx hb dX7_varianceOf_62 ?_
      refine lv_ladd hx hb dX7_varianceOf_63 ?_
      refine lv_lstore_n (lv' := [(1, .long (v1 + (2 * (((Mslopes v3.toNatClampNeg) * (Mslopes v4.toNatClampNeg)) * ((Mcovariance ((6 * v3) + v4).toNatClampNeg).toInt64))))), (0, .ref (aM 0)), (3, .int v3), (4, .int v4)]) hx hb dX7_varianceOf_64 rfl hl (by decide) rfl (fun ls hl => ?_)
      refine lv_iinc (v := v4 + 1) (lv' := [(4, .int (v4 + 1)), (1, .long (v1 + (2 * (((Mslopes v3.toNatClampNeg) * (Mslopes v4.toNatClampNeg)) * ((Mcovariance ((6 * v3) + v4).toNatClampNeg).toInt64))))), (0, .ref (aM 0)), (3, .int v3)]) hx hb dX7_varianceOf_65 hl (k := 3) rfl rfl (by decide) rfl (fun ls hl => ?_)
      refine lv_goto (tgt := 23) hx hb dX7_varianceOf_68 (by decide) ?_
      exact ih _ _ _ h _ _ _ hP hD hS (lv_sub hl [2, 1, 3, 0] rfl)
  have LH_4 : ∀ (E77 : Int64 → Option (Int64)) (hE77 : ∀ (v1 : Int64), E77 v1 = some r → ∀ (H : Heap) (locs : List Loc) (ls : Array Slot), va_P D vwCl (wM k aM Mestimate Munit Msort Mwidth Mmany Mreading Mvariance Mcovariance Mline Mformulas Mroot Mkind Mone Mother Msigns Mplace MleftOf MrightOf Mtype Msum Msign MsignAt Mproduct Mvalue Mslope Mexponent Mdrawn Mslopes Mfrom Mfactor Mthrown Mlength Mmodels Mopen Mat Mrows Mx) H → va_D A (wM k aM Mestimate Munit Msort Mwidth Mmany Mreading Mvariance Mcovariance Mline Mformulas Mroot Mkind Mone Mother Msigns Mplace MleftOf MrightOf Mtype Msum Msign MsignAt Mproduct Mvalue Mslope Mexponent Mdrawn Mslopes Mfrom Mfactor Mthrown Mlength Mmodels Mopen Mat Mrows Mx) → va_S A s.heap H locs → lv_has ls 5 [(1, .long v1)] → W p l e rmX7_varianceOf s m args below meth c H locs 0 0 Q (F0 m 77 ls [])) (n : Nat) (v1 : Int64) (v3 : Int32), LX7_varianceOf_4 Mvariance Mcovariance Mslopes E77 n v1 v3 = some r → ∀ (H : Heap) (locs : List Loc) (ls : Array Slot), va_P D vwCl (wM k aM Mestimate Munit Msort Mwidth Mmany Mreading Mvariance Mcovariance Mline Mformulas Mroot Mkind Mone Mother Msigns Mplace MleftOf MrightOf Mtype Msum Msign MsignAt Mproduct Mvalue Mslope Mexponent Mdrawn Mslopes Mfrom Mfactor Mthrown Mlength Mmodels Mopen Mat Mrows Mx) H → va_D A (wM k aM Mestimate Munit Msort Mwidth Mmany Mreading Mvariance Mcovariance Mline Mformulas Mroot Mkind Mone Mother Msigns Mplace MleftOf MrightOf Mtype Msum Msign MsignAt Mproduct Mvalue Mslope Mexponent Mdrawn Mslopes Mfrom Mfactor Mthrown Mlength Mmodels Mopen Mat Mrows Mx) → va_S A s.heap H locs → lv_has ls 5 [(0, .ref (aM 0)), (1, .long v1), (3, .int v3)] → W p l e rmX7_varianceOf s m args below meth c H locs 0 0 Q (F0 m 4 ls []) := by
    intro E77 hE77 n
    induction n with
    | zero => intro v1 v3 h; simp [LX7_varianceOf_4] at h
    | succ n ih =>
    intro v1 v3 h H locs ls hP hD hS hl
    rw [LX7_varianceOf_4] at h
    refine lv_iload_n hx hb dX7_varianceOf_4 rfl (lv_at hl 2 rfl) ?_
    refine lv_bipush (v := 6) hx hb dX7_varianceOf_5 (by decide) ?_
    refine lv_icmp_ge (tgt := 77) hx hb dX7_varianceOf_7 (by decide) (fun c1 => ?_) (fun c1 => ?_)
    · replace h := sf_t c1 h
      exact hE77 _ h _ _ _ hP hD hS (lv_sub hl [1] rfl)
    · replace h := sf_f c1 h
      refine lv_lload_n hx hb dX7_varianceOf_10 rfl (lv_at hl 1 rfl) ?_
      refine lv_aload_n hx hb dX7_varianceOf_11 rfl (lv_at hl 0 rfl) ?_
      refine lv_iload_n hx hb dX7_varianceOf_12 rfl (lv_at hl 2 rfl) ?_
      obtain ⟨r2, hc2, h⟩ := bnd1_inv h
      have hFc := va_free (wc := (wM k aM Mestimate Munit Msort Mwidth Mmany Mreading Mvariance Mcovariance Mline Mformulas Mroot Mkind Mone Mother Msigns Mplace MleftOf MrightOf Mtype Msum Msign MsignAt Mproduct Mvalue Mslope Mexponent Mdrawn Mslopes Mfrom Mfactor Mthrown Mlength Mmodels Mopen Mat Mrows Mx)) hD hS hA [0, 1, 2, 3, 4, 5, 6, 7, 8, 9, 10, 11, 12, 13, 14, 15, 16, 17, 18, 19, 20, 21, 22, 23, 24, 25, 26, 27, 28, 29, 30] rfl
      refine xc_l (va_runV (As := [.int v3]) (rest := [.long v1]) ⟨hx, hb, hml, hown, hts⟩ (met_X7_part l D k  aM H.size Mestimate Munit Msort Mwidth Mmany Mreading Mvariance Mcovariance Mline Mformulas Mroot Mkind Mone Mother Msigns Mplace MleftOf MrightOf Mtype Msum Msign MsignAt Mproduct Mvalue Mslope Mexponent Mdrawn Mslopes Mfrom Mfactor Mthrown Mlength Mmodels Mopen Mat Mrows Mx v3 r2 hc2) (cwV 1 hts gX7_varianceOf_X7_part rfl rfl rfl (by decide +kernel) ⟨Nat.le_of_ble_eq_true rfl, Nat.le_of_ble_eq_true rfl⟩) ⟨pw_blind, va_recv hK hP (ci := 7) (q0 := 0) rfl rfl, pw_start hP hK hD⟩ rfl rfl hl.1 rfl (lv_room (Nat.le_of_ble_eq_true rfl)) dX7_varianceOf_13 ⟨Nat.zero_le _, Nat.zero_le _⟩) hS hFc (fun H1 locs hP1 hD1 hk1 hS => ?_)
      obtain ⟨hP, hD⟩ := vj_all hFc hP1 hD1
      clear hP1 hD1 hk1 hFc
      generalize H1 = H at hP hS ⊢
      refine lv_ladd hx hb dX7_varianceOf_16 ?_
      refine lv_lstore_n (lv' := [(1, .long (v1 + r2)), (0, .ref (aM 0)), (3, .int v3)]) hx hb dX7_varianceOf_17 rfl hl (by decide) rfl (fun ls hl => ?_)
      refine lv_iload_n hx hb dX7_varianceOf_18 rfl (lv_at hl 2 rfl) ?_
      refine lv_iconst (v := 1) hx hb dX7_varianceOf_19 (by decide) ?_
      refine lv_iadd hx hb dX7_varianceOf_20 ?_
      refine lv_istore (lv' := [(4, .int (v3 + 1)), (1, .long (v1 + r2)), (0, .ref (aM 0)), (3, .int v3)]) hx hb dX7_varianceOf_21 hl (by decide) rfl (fun ls hl => ?_)
      refine LH_23 _ (fun v1 v3 h H locs ls hP hD hS hl => ?_) _ _ _ _ h _ _ _ hP hD hS (lv_sub hl [2, 1, 3, 0] rfl)
      · skip
        refine lv_iinc (v := v3 + 1) (lv' := [(3, .int (v3 + 1)), (0, .ref (aM 0)), (1, .long v1)]) hx hb dX7_varianceOf_71 hl (k := 2) rfl rfl (by decide) rfl (fun ls hl => ?_)
        refine lv_goto (tgt := 4) hx hb dX7_varianceOf_74 (by decide) ?_
        exact ih _ _ h _ _ _ hP hD hS (lv_sub hl [1, 2, 0] rfl)
  suffices main : ∀ (H : Heap) (locs : List Loc) (ls : Array Slot), va_P D vwCl (wM k aM Mestimate Munit Msort Mwidth Mmany Mreading Mvariance Mcovariance Mline Mformulas Mroot Mkind Mone Mother Msigns Mplace MleftOf MrightOf Mtype Msum Msign MsignAt Mproduct Mvalue Mslope Mexponent Mdrawn Mslopes Mfrom Mfactor Mthrown Mlength Mmodels Mopen Mat Mrows Mx) H → va_D A (wM k aM Mestimate Munit Msort Mwidth Mmany Mreading Mvariance Mcovariance Mline Mformulas Mroot Mkind Mone Mother Msigns Mplace MleftOf MrightOf Mtype Msum Msign MsignAt Mproduct Mvalue Mslope Mexponent Mdrawn Mslopes Mfrom Mfactor Mthrown Mlength Mmodels Mopen Mat Mrows Mx) → va_S A s.heap H locs → lv_has ls 5 [(0, .ref (aM 0))] → W p l e rmX7_varianceOf s m args below meth c H locs 0 0 Q (F0 m 0 ls []) from main _ _ _ hP hD hS hl
  clear hP hD hS hl ls hAe
  intro H locs ls hP hD hS hl
  refine lv_lconst (v := 0) hx hb dX7_varianceOf_0 (by decide) ?_
  refine lv_lstore_n (lv' := [(1, .long 0), (0, .ref (aM 0))]) hx hb dX7_varianceOf_1 rfl hl (by decide) rfl (fun ls hl => ?_)
  refine lv_iconst (v := 0) hx hb dX7_varianceOf_2 (by decide) ?_
  refine lv_istore_n (lv' := [(3, .int 0), (1, .long 0), (0, .ref (aM 0))]) hx hb dX7_varianceOf_3 rfl hl (by decide) rfl (fun ls hl => ?_)
  refine LH_4 _ (fun v1 h H locs ls hP hD hS hl => ?_) _ _ _ h _ _ _ hP hD hS (lv_sub hl [2, 1, 0] rfl)
  · skip
    refine lv_lload_n hx hb dX7_varianceOf_77 rfl (lv_at hl 0 rfl) ?_
    have hP9 := hP
    have hD9 := hD
    have hS9 := hS
    subst hQ
    cases h
    exact W.lret hx hb hr (fun t ht hW => ⟨⟨_, (), rfl, rfl, by rw [ht]; exact hP9, va_K.moved hW.alike hK, hD9⟩, hS9.F ht⟩) hS9.2.2 dX7_varianceOf_78
def LX7_root_16 (v0 : Int64) (E52 : Int64 → Option (Int64)) : Nat → Int64 → Int32 → Option (Int64)
  | 0, _, _ => none
  | fuel + 1, v2, v4 => (if v4 < 0 then E52 v2 else gzL (v2 + (jlshl 1 v4)) ((if 0 < (lg_cmp (v2 + (jlshl 1 v4)) (v0 / (v2 + (jlshl 1 v4)))) then LX7_root_16 v0 E52 fuel v2 (v4 + (-1)) else LX7_root_16 v0 E52 fuel (v2 + (jlshl 1 v4)) (v4 + (-1)))))
def fX7_root (v0 : Int64) : Option (Int64) := (if 0 ≤ (lg_cmp v0 0) then LX7_root_16 v0 (fun (v2 : Int64) => some (v2)) 1000 0 31 else some ((-1)))
abbrev rmX7_root : Room := { frames := 0, cells := 0, slots := 0, locals := 0 }
set_option maxHeartbeats 4000000 in
set_option maxRecDepth 100000 in
theorem met_X7_root (l : Launch) (D : va_G) (k : Nat → ClassId)   (sz : Nat)  (v0 : Int64) (r : Int64) (h : fX7_root v0 = some r) : Met l yX7_root wsX7_root rmX7_root (va_Pc [.long v0] (PreW D k ([] : va_W) sz)) (va_Ql (fun r9 (_ : Unit) => r9 = r) (fun _ t => PostW D k (va_A ([] : va_W) sz) ([] : va_W) t) (va_A ([] : va_W) sz)) 0 0 (va_A ([] : va_W) sz) := by
  refine Met.ofW (cc := cX7_root) (maxL := 7) (ret := (some .long)) (by decide) rfl ?_
  intro p e s m args below meth c s₁ B hml hv
  obtain ⟨hav, hsz, hP, hK, hD0⟩ := hv
  have hx := B.exec
  have hb := B.bytes
  have hr := B.returns
  have hts := atoms_spec (ws := wsX7_root) B.pre
  have hown : s.vm.findClass RX7 = some m.cls := findClass_of_methodNamed B.named
  have hlocks := B.notSynchronized
  subst hsz
  have hD := hD0.self (sz := s.heap.size)
  clear hD0
  generalize hAe : va_A ([] : va_W) s.heap.size = A at hD ⊢
  have hA : ∀ q : Nat, s.heap.size ≤ q → A q := fun q h => by rw [← hAe]; exact Or.inr h
  have hS : va_S A s.heap s.heap [] := va_S.rf
  have hl := lv_entry ([.long v0]) (n := 7) (Nat.le_of_ble_eq_true rfl)
  rw [show entryFrame m args 7 = entryFrame m ([.long v0] : List Value).toArray 7 from by rw [hav], lg_entry_eq]
  generalize (lg_sl ([.long v0]) ++ List.replicate (7 - (lg_sl ([.long v0])).length) Slot.unset).toArray = ls at hl ⊢
  replace hl : lv_has ls 7 [(0, .long v0)] := hl
  have kc208 := hts (.constantLong RX7 208 (-1)) (by decide +kernel)
  refine w_q (fun Q hQ => ?_)
  unfold fX7_root at h
  show W p l e rmX7_root s m args below meth c s.heap [] 0 0 Q (F0 m 0 ls [])
  have LH_16 : ∀ (E52 : Int64 → Option (Int64)) (hE52 : ∀ (v2 : Int64), E52 v2 = some r → ∀ (H : Heap) (locs : List Loc) (ls : Array Slot), va_P D vwCl ([] : va_W) H → va_D A ([] : va_W) → va_S A s.heap H locs → lv_has ls 7 [(2, .long v2)] → W p l e rmX7_root s m args below meth c H locs 0 0 Q (F0 m 52 ls [])) (n : Nat) (v2 : Int64) (v4 : Int32), LX7_root_16 v0 E52 n v2 v4 = some r → ∀ (H : Heap) (locs : List Loc) (ls : Array Slot), va_P D vwCl ([] : va_W) H → va_D A ([] : va_W) → va_S A s.heap H locs → lv_has ls 7 [(0, .long v0), (2, .long v2), (4, .int v4)] → W p l e rmX7_root s m args below meth c H locs 0 0 Q (F0 m 16 ls []) := by
    intro E52 hE52 n
    induction n with
    | zero => intro v2 v4 h; simp [LX7_root_16] at h
    | succ n ih =>
    intro v2 v4 h H locs ls hP hD hS hl
    rw [LX7_root_16] at h
    refine lv_iload hx hb dX7_root_16 (lv_at hl 2 rfl) ?_
    refine lv_if_lt (tgt := 52) hx hb dX7_root_18 (by decide) (fun c2 => ?_) (fun c2 => ?_)
    · replace h := sf_t c2 h
      exact hE52 _ h _ _ _ hP hD hS (lv_sub hl [1] rfl)
    · replace h := sf_f c2 h
      refine lv_lload_n hx hb dX7_root_21 rfl (lv_at hl 1 rfl) ?_
      refine lv_lconst (v := 1) hx hb dX7_root_22 (by decide) ?_
      refine lv_iload hx hb dX7_root_23 (lv_at hl 2 rfl) ?_
      refine lv_lshl (v := jlshl 1 v4) hx hb dX7_root_25 rfl ?_
      refine lv_ladd hx hb dX7_root_26 ?_
      refine lv_lstore (lv' := [(5, .long (v2 + (jlshl 1 v4))), (0, .long v0), (2, .long v2), (4, .int v4)]) hx hb dX7_root_27 hl (by decide) rfl (fun ls hl => ?_)
      refine lv_lload hx hb dX7_root_29 (lv_at hl 0 rfl) ?_
      refine lv_lload_n hx hb dX7_root_31 rfl (lv_at hl 1 rfl) ?_
      refine lv_lload hx hb dX7_root_32 (lv_at hl 0 rfl) ?_
      obtain ⟨hz3, h⟩ := gzL_inv h
      refine lv_ldiv hx hb dX7_root_34 hz3 ?_
      refine W.lcmp hx hb dX7_root_35 ?_
      refine lv_if_gt (tgt := 44) hx hb dX7_root_36 (by decide) (fun c4 => ?_) (fun c4 => ?_)
      · replace h := sf_t c4 h
        refine lv_lload_n hx hb dX7_root_44 rfl (lv_at hl 2 rfl) ?_
        refine lv_lstore_n (lv' := [(2, .long v2), (5, .long (v2 + (jlshl 1 v4))), (0, .long v0), (4, .int v4)]) hx hb dX7_root_45 rfl hl (by decide) rfl (fun ls hl => ?_)
        refine lv_iinc (v := v4 + (-1)) (lv' := [(4, .int (v4 + (-1))), (2, .long v2), (5, .long (v2 + (jlshl 1 v4))), (0, .long v0)]) hx hb dX7_root_46 hl (k := 3) rfl rfl (by decide) rfl (fun ls hl => ?_)
        refine lv_goto (tgt := 16) hx hb dX7_root_49 (by decide) ?_
        exact ih _ _ h _ _ _ hP hD hS (lv_sub hl [3, 1, 0] rfl)
      · replace h := sf_f c4 h
        refine lv_lload hx hb dX7_root_39 (lv_at hl 0 rfl) ?_
        refine lv_goto (tgt := 45) hx hb dX7_root_41 (by decide) ?_
        refine lv_lstore_n (lv' := [(2, .long (v2 + (jlshl 1 v4))), (5, .long (v2 + (jlshl 1 v4))), (0, .long v0), (4, .int v4)]) hx hb dX7_root_45 rfl hl (by decide) rfl (fun ls hl => ?_)
        refine lv_iinc (v := v4 + (-1)) (lv' := [(4, .int (v4 + (-1))), (2, .long (v2 + (jlshl 1 v4))), (5, .long (v2 + (jlshl 1 v4))), (0, .long v0)]) hx hb dX7_root_46 hl (k := 3) rfl rfl (by decide) rfl (fun ls hl => ?_)
        refine lv_goto (tgt := 16) hx hb dX7_root_49 (by decide) ?_
        exact ih _ _ h _ _ _ hP hD hS (lv_sub hl [3, 1, 0] rfl)
  suffices main : ∀ (H : Heap) (locs : List Loc) (ls : Array Slot), va_P D vwCl ([] : va_W) H → va_D A ([] : va_W) → va_S A s.heap H locs → lv_has ls 7 [(0, .long v0)] → W p l e rmX7_root s m args below meth c H locs 0 0 Q (F0 m 0 ls []) from main _ _ _ hP hD hS hl
  clear hP hD hS hl ls hAe
  intro H locs ls hP hD hS hl
  refine lv_lload_n hx hb dX7_root_0 rfl (lv_at hl 0 rfl) ?_
  refine lv_lconst (v := 0) hx hb dX7_root_1 (by decide) ?_
  refine W.lcmp hx hb dX7_root_2 ?_
  refine lv_if_ge (tgt := 10) hx hb dX7_root_3 (by decide) (fun c1 => ?_) (fun c1 => ?_)
  · replace h := sf_t c1 h
    refine lv_lconst (v := 0) hx hb dX7_root_10 (by decide) ?_
    refine lv_lstore_n (lv' := [(2, .long 0), (0, .long v0)]) hx hb dX7_root_11 rfl hl (by decide) rfl (fun ls hl => ?_)
    refine lv_bipush (v := 31) hx hb dX7_root_12 (by decide) ?_
    refine lv_istore (lv' := [(4, .int 31), (2, .long 0), (0, .long v0)]) hx hb dX7_root_14 hl (by decide) rfl (fun ls hl => ?_)
    refine LH_16 _ (fun v2 h H locs ls hP hD hS hl => ?_) _ _ _ h _ _ _ hP hD hS (lv_sub hl [2, 1, 0] rfl)
    · skip
      refine lv_lload_n hx hb dX7_root_52 rfl (lv_at hl 0 rfl) ?_
      have hP9 := hP
      have hD9 := hD
      have hS9 := hS
      subst hQ
      cases h
      exact W.lret hx hb hr (fun t ht hW => ⟨⟨_, (), rfl, rfl, by rw [ht]; exact hP9, va_K.moved hW.alike hK, hD9⟩, hS9.F ht⟩) hS9.2.2 dX7_root_53
  · replace h := sf_f c1 h
    refine lv_ldc2 (v := -1) hx hb hown kc208 dX7_root_6 ?_
    have hP9 := hP
    have hD9 := hD
    have hS9 := hS
    subst hQ
    cases h
    exact W.lret hx hb hr (fun t ht hW => ⟨⟨_, (), rfl, rfl, by rw [ht]; exact hP9, va_K.moved hW.alike hK, hD9⟩, hS9.F ht⟩) hS9.2.2 dX7_root_9
def fX7_shareOf (v1 : Int32) (v2 : Int64) (Mvariance : Nat → Int32) (Mslopes : Nat → Int64) : Option (Int64) := (if (lg_cmp v2 0) = 0 then some (0) else bnd1 (fX7_part v1 Mvariance Mslopes) (fun r2 => gzL v2 (some ((100 * r2) / v2))))
abbrev rmX7_shareOf : Room := { frames := 1, cells := 0, slots := 0, locals := 21 }
set_option maxHeartbeats 4000000 in
set_option maxRecDepth 100000 in
theorem met_X7_shareOf (l : Launch) (D : va_G) (k : Nat → ClassId)  (aM : Nat → Nat) (sz : Nat) (Mestimate : Nat → Int32) (Munit : Nat → Int32) (Msort : Nat → Int32) (Mwidth : Nat → Int32) (Mmany : Nat → Int32) (Mreading : Nat → Int32) (Mvariance : Nat → Int32) (Mcovariance : Nat → Int32) (Mline : Nat → Int32) (Mformulas : Nat → Int32) (Mroot : Nat → Int32) (Mkind : Nat → Int32) (Mone : Nat → Int32) (Mother : Nat → Int32) (Msigns : Nat → Int32) (Mplace : Nat → Int32) (MleftOf : Nat → Int32) (MrightOf : Nat → Int32) (Mtype : Nat → Int32) (Msum : Nat → Int32) (Msign : Nat → Int32) (MsignAt : Nat → Int32) (Mproduct : Nat → Int32) (Mvalue : Nat → Int64) (Mslope : Nat → Int64) (Mexponent : Nat → Int32) (Mdrawn : Nat → Int32) (Mslopes : Nat → Int64) (Mfrom : Nat → Int32) (Mfactor : Nat → Int32) (Mthrown : Int32) (Mlength : Int32) (Mmodels : Int32) (Mopen : Int32) (Mat : Int32) (Mrows : Int32) (Mx : Int32) (v1 : Int32) (v2 : Int64) (r : Int64) (h : fX7_shareOf v1 v2 Mvariance Mslopes = some r) : Met l yX7_shareOf wsX7_shareOf rmX7_shareOf (va_Pc [.ref (aM 0), .int v1, .long v2] (PreW D k (wM k aM Mestimate Munit Msort Mwidth Mmany Mreading Mvariance Mcovariance Mline Mformulas Mroot Mkind Mone Mother Msigns Mplace MleftOf MrightOf Mtype Msum Msign MsignAt Mproduct Mvalue Mslope Mexponent Mdrawn Mslopes Mfrom Mfactor Mthrown Mlength Mmodels Mopen Mat Mrows Mx) sz)) (va_Ql (fun r9 (_ : Unit) => r9 = r) (fun _ t => PostW D k (va_A (wM k aM Mestimate Munit Msort Mwidth Mmany Mreading Mvariance Mcovariance Mline Mformulas Mroot Mkind Mone Mother Msigns Mplace MleftOf MrightOf Mtype Msum Msign MsignAt Mproduct Mvalue Mslope Mexponent Mdrawn Mslopes Mfrom Mfactor Mthrown Mlength Mmodels Mopen Mat Mrows Mx) sz) (wM k aM Mestimate Munit Msort Mwidth Mmany Mreading Mvariance Mcovariance Mline Mformulas Mroot Mkind Mone Mother Msigns Mplace MleftOf MrightOf Mtype Msum Msign MsignAt Mproduct Mvalue Mslope Mexponent Mdrawn Mslopes Mfrom Mfactor Mthrown Mlength Mmodels Mopen Mat Mrows Mx) t) (va_A (wM k aM Mestimate Munit Msort Mwidth Mmany Mreading Mvariance Mcovariance Mline Mformulas Mroot Mkind Mone Mother Msigns Mplace MleftOf MrightOf Mtype Msum Msign MsignAt Mproduct Mvalue Mslope Mexponent Mdrawn Mslopes Mfrom Mfactor Mthrown Mlength Mmodels Mopen Mat Mrows Mx) sz)) 0 0 (va_A (wM k aM Mestimate Munit Msort Mwidth Mmany Mreading Mvariance Mcovariance Mline Mformulas Mroot Mkind Mone Mother Msigns Mplace MleftOf MrightOf Mtype Msum Msign MsignAt Mproduct Mvalue Mslope Mexponent Mdrawn Mslopes Mfrom Mfactor Mthrown Mlength Mmodels Mopen Mat Mrows Mx) sz) := by
  refine Met.ofW (cc := cX7_shareOf) (maxL := 4) (ret := (some .long)) (by decide) rfl ?_
  intro p e s m args below meth c s₁ B hml hv
  obtain ⟨hav, hsz, hP, hK, hD0⟩ := hv
  have hx := B.exec
  have hb := B.bytes
  have hr := B.returns
  have hts := atoms_spec (ws := wsX7_shareOf) B.pre
  have hown : s.vm.findClass RX7 = some m.cls := findClass_of_methodNamed B.named
  have hlocks := B.notSynchronized
  subst hsz
  have hD := hD0.self (sz := s.heap.size)
  clear hD0
  generalize hAe : va_A (wM k aM Mestimate Munit Msort Mwidth Mmany Mreading Mvariance Mcovariance Mline Mformulas Mroot Mkind Mone Mother Msigns Mplace MleftOf MrightOf Mtype Msum Msign MsignAt Mproduct Mvalue Mslope Mexponent Mdrawn Mslopes Mfrom Mfactor Mthrown Mlength Mmodels Mopen Mat Mrows Mx) s.heap.size = A at hD ⊢
  have hA : ∀ q : Nat, s.heap.size ≤ q → A q := fun q h => by rw [← hAe]; exact Or.inr h
  have hS : va_S A s.heap s.heap [] := va_S.rf
  have hl := lv_entry ([.ref (aM 0), .int v1, .long v2]) (n := 4) (Nat.le_of_ble_eq_true rfl)
  rw [show entryFrame m args 4 = entryFrame m ([.ref (aM 0), .int v1, .long v2] : List Value).toArray 4 from by rw [hav], lg_entry_eq]
  generalize (lg_sl ([.ref (aM 0), .int v1, .long v2]) ++ List.replicate (4 - (lg_sl ([.ref (aM 0), .int v1, .long v2])).length) Slot.unset).toArray = ls at hl ⊢
  replace hl : lv_has ls 4 [(0, .ref (aM 0)), (1, .int v1), (2, .long v2)] := hl
  have kc210 := hts (.constantLong RX7 210 (100)) (by decide +kernel)
  refine w_q (fun Q hQ => ?_)
  unfold fX7_shareOf at h
  show W p l e rmX7_shareOf s m args below meth c s.heap [] 0 0 Q (F0 m 0 ls [])
  suffices main : ∀ (H : Heap) (locs : List Loc) (ls : Array Slot), va_P D vwCl (wM k aM Mestimate Munit Msort Mwidth Mmany Mreading Mvariance Mcovariance Mline Mformulas Mroot Mkind Mone Mother Msigns Mplace MleftOf MrightOf Mtype Msum Msign MsignAt Mproduct Mvalue Mslope Mexponent Mdrawn Mslopes Mfrom Mfactor Mthrown Mlength Mmodels Mopen Mat Mrows Mx) H → va_D A (wM k aM Mestimate Munit Msort Mwidth Mmany Mreading Mvariance Mcovariance Mline Mformulas Mroot Mkind Mone Mother Msigns Mplace MleftOf MrightOf Mtype Msum Msign MsignAt Mproduct Mvalue Mslope Mexponent Mdrawn Mslopes Mfrom Mfactor Mthrown Mlength Mmodels Mopen Mat Mrows Mx) → va_S A s.heap H locs → lv_has ls 4 [(0, .ref (aM 0)), (1, .int v1), (2, .long v2)] → W p l e rmX7_shareOf s m args below meth c H locs 0 0 Q (F0 m 0 ls []) from main _ _ _ hP hD hS hl
  clear hP hD hS hl ls hAe
  intro H locs ls hP hD hS hl
  refine lv_lload_n hx hb dX7_shareOf_0 rfl (lv_at hl 2 rfl) ?_
  refine lv_lconst (v := 0) hx hb dX7_shareOf_1 (by decide) ?_
  refine W.lcmp hx hb dX7_shareOf_2 ?_
  refine lv_if_ne (tgt := 10) hx hb dX7_shareOf_3 (by decide) (fun c1 => ?_) (fun c1 => ?_)
  · replace h := sf_f c1 h
    refine lv_ldc2 (v := 100) hx hb hown kc210 dX7_shareOf_10 ?_
    refine lv_aload_n hx hb dX7_shareOf_13 rfl (lv_at hl 0 rfl) ?_
    refine lv_iload_n hx hb dX7_shareOf_14 rfl (lv_at hl 1 rfl) ?_
    obtain ⟨r2, hc2, h⟩ := bnd1_inv h
    have hFc := va_free (wc := (wM k aM Mestimate Munit Msort Mwidth Mmany Mreading Mvariance Mcovariance Mline Mformulas Mroot Mkind Mone Mother Msigns Mplace MleftOf MrightOf Mtype Msum Msign MsignAt Mproduct Mvalue Mslope Mexponent Mdrawn Mslopes Mfrom Mfactor Mthrown Mlength Mmodels Mopen Mat Mrows Mx)) hD hS hA [0, 1, 2, 3, 4, 5, 6, 7, 8, 9, 10, 11, 12, 13, 14, 15, 16, 17, 18, 19, 20, 21, 22, 23, 24, 25, 26, 27, 28, 29, 30] rfl
    refine xc_l (va_runV (As := [.int v1]) (rest := [.long 100]) ⟨hx, hb, hml, hown, hts⟩ (met_X7_part l D k  aM H.size Mestimate Munit Msort Mwidth Mmany Mreading Mvariance Mcovariance Mline Mformulas Mroot Mkind Mone Mother Msigns Mplace MleftOf MrightOf Mtype Msum Msign MsignAt Mproduct Mvalue Mslope Mexponent Mdrawn Mslopes Mfrom Mfactor Mthrown Mlength Mmodels Mopen Mat Mrows Mx v1 r2 hc2) (cwV 1 hts gX7_shareOf_X7_part rfl rfl rfl (by decide +kernel) ⟨Nat.le_of_ble_eq_true rfl, Nat.le_of_ble_eq_true rfl⟩) ⟨pw_blind, va_recv hK hP (ci := 7) (q0 := 0) rfl rfl, pw_start hP hK hD⟩ rfl rfl hl.1 rfl (lv_room (Nat.le_of_ble_eq_true rfl)) dX7_shareOf_15 ⟨Nat.zero_le _, Nat.zero_le _⟩) hS hFc (fun H1 locs hP1 hD1 hk1 hS => ?_)
    obtain ⟨hP, hD⟩ := vj_all hFc hP1 hD1
    clear hP1 hD1 hk1 hFc
    generalize H1 = H at hP hS ⊢
    refine lv_lmul hx hb dX7_shareOf_18 ?_
    refine lv_lload_n hx hb dX7_shareOf_19 rfl (lv_at hl 2 rfl) ?_
    obtain ⟨hz3, h⟩ := gzL_inv h
    refine lv_ldiv hx hb dX7_shareOf_20 hz3 ?_
    have hP9 := hP
    have hD9 := hD
    have hS9 := hS
    subst hQ
    cases h
    exact W.lret hx hb hr (fun t ht hW => ⟨⟨_, (), rfl, rfl, by rw [ht]; exact hP9, va_K.moved hW.alike hK, hD9⟩, hS9.F ht⟩) hS9.2.2 dX7_shareOf_21
  · replace h := sf_t c1 h
    refine lv_lconst (v := 0) hx hb dX7_shareOf_6 (by decide) ?_
    refine lv_goto (tgt := 21) hx hb dX7_shareOf_7 (by decide) ?_
    have hP9 := hP
    have hD9 := hD
    have hS9 := hS
    subst hQ
    cases h
    exact W.lret hx hb hr (fun t ht hW => ⟨⟨_, (), rfl, rfl, by rw [ht]; exact hP9, va_K.moved hW.alike hK, hD9⟩, hS9.F ht⟩) hS9.2.2 dX7_shareOf_21
def LX7_degreesSum_5 (Msort : Nat → Int32) (Mmany : Nat → Int32) (Mvariance : Nat → Int32) (Mslopes : Nat → Int64) (v1 : Int64) (E52 : Int64 → Option (Int64)) : Nat → Int64 → Int32 → Option (Int64)
  | 0, _, _ => none
  | fuel + 1, v3, v5 => (if 6 ≤ v5 then E52 v3 else bnd1 (fX7_degreesOf v5 Msort Mmany) (fun r2 => (if r2 ≤ 0 then LX7_degreesSum_5 Msort Mmany Mvariance Mslopes v1 E52 fuel v3 (v5 + 1) else bnd1 (fX7_shareOf v5 v1 Mvariance Mslopes) (fun r4 => bnd1 (fX7_degreesOf v5 Msort Mmany) (fun r5 => gzL r5.toInt64 (LX7_degreesSum_5 Msort Mmany Mvariance Mslopes v1 E52 fuel (v3 + ((r4 * r4) / r5.toInt64)) (v5 + 1)))))))
def fX7_degreesSum (v1 : Int64) (Msort : Nat → Int32) (Mmany : Nat → Int32) (Mvariance : Nat → Int32) (Mslopes : Nat → Int64) : Option (Int64) := LX7_degreesSum_5 Msort Mmany Mvariance Mslopes v1 (fun (v3 : Int64) => some (v3)) 1000 0 0
abbrev rmX7_degreesSum : Room := { frames := 2, cells := 0, slots := 0, locals := 44 }
set_option maxHeartbeats 4000000 in
set_option maxRecDepth 100000 in
theorem met_X7_degreesSum (l : Launch) (D : va_G) (k : Nat → ClassId)  (aM : Nat → Nat) (sz : Nat) (Mestimate : Nat → Int32) (Munit : Nat → Int32) (Msort : Nat → Int32) (Mwidth : Nat → Int32) (Mmany : Nat → Int32) (Mreading : Nat → Int32) (Mvariance : Nat → Int32) (Mcovariance : Nat → Int32) (Mline : Nat → Int32) (Mformulas : Nat → Int32) (Mroot : Nat → Int32) (Mkind : Nat → Int32) (Mone : Nat → Int32) (Mother : Nat → Int32) (Msigns : Nat → Int32) (Mplace : Nat → Int32) (MleftOf : Nat → Int32) (MrightOf : Nat → Int32) (Mtype : Nat → Int32) (Msum : Nat → Int32) (Msign : Nat → Int32) (MsignAt : Nat → Int32) (Mproduct : Nat → Int32) (Mvalue : Nat → Int64) (Mslope : Nat → Int64) (Mexponent : Nat → Int32) (Mdrawn : Nat → Int32) (Mslopes : Nat → Int64) (Mfrom : Nat → Int32) (Mfactor : Nat → Int32) (Mthrown : Int32) (Mlength : Int32) (Mmodels : Int32) (Mopen : Int32) (Mat : Int32) (Mrows : Int32) (Mx : Int32) (v1 : Int64) (r : Int64) (h : fX7_degreesSum v1 Msort Mmany Mvariance Mslopes = some r) : Met l yX7_degreesSum wsX7_degreesSum rmX7_degreesSum (va_Pc [.ref (aM 0), .long v1] (PreW D k (wM k aM Mestimate Munit Msort Mwidth Mmany Mreading Mvariance Mcovariance Mline Mformulas Mroot Mkind Mone Mother Msigns Mplace MleftOf MrightOf Mtype Msum Msign MsignAt Mproduct Mvalue Mslope Mexponent Mdrawn Mslopes Mfrom Mfactor Mthrown Mlength Mmodels Mopen Mat Mrows Mx) sz)) (va_Ql (fun r9 (_ : Unit) => r9 = r) (fun _ t => PostW D k (va_A (wM k aM Mestimate Munit Msort Mwidth Mmany Mreading Mvariance Mcovariance Mline Mformulas Mroot Mkind Mone Mother Msigns Mplace MleftOf MrightOf Mtype Msum Msign MsignAt Mproduct Mvalue Mslope Mexponent Mdrawn Mslopes Mfrom Mfactor Mthrown Mlength Mmodels Mopen Mat Mrows Mx) sz) (wM k aM Mestimate Munit Msort Mwidth Mmany Mreading Mvariance Mcovariance Mline Mformulas Mroot Mkind Mone Mother Msigns Mplace MleftOf MrightOf Mtype Msum Msign MsignAt Mproduct Mvalue Mslope Mexponent Mdrawn Mslopes Mfrom Mfactor Mthrown Mlength Mmodels Mopen Mat Mrows Mx) t) (va_A (wM k aM Mestimate Munit Msort Mwidth Mmany Mreading Mvariance Mcovariance Mline Mformulas Mroot Mkind Mone Mother Msigns Mplace MleftOf MrightOf Mtype Msum Msign MsignAt Mproduct Mvalue Mslope Mexponent Mdrawn Mslopes Mfrom Mfactor Mthrown Mlength Mmodels Mopen Mat Mrows Mx) sz)) 0 0 (va_A (wM k aM Mestimate Munit Msort Mwidth Mmany Mreading Mvariance Mcovariance Mline Mformulas Mroot Mkind Mone Mother Msigns Mplace MleftOf MrightOf Mtype Msum Msign MsignAt Mproduct Mvalue Mslope Mexponent Mdrawn Mslopes Mfrom Mfactor Mthrown Mlength Mmodels Mopen Mat Mrows Mx) sz) := by
  refine Met.ofW (cc := cX7_degreesSum) (maxL := 8) (ret := (some .long)) (by decide) rfl ?_
  intro p e s m args below meth c s₁ B hml hv
  obtain ⟨hav, hsz, hP, hK, hD0⟩ := hv
  have hx := B.exec
  have hb := B.bytes
  have hr := B.returns
  have hts := atoms_spec (ws := wsX7_degreesSum) B.pre
  have hown : s.vm.findClass RX7 = some m.cls := findClass_of_methodNamed B.named
  have hlocks := B.notSynchronized
  subst hsz
  have hD := hD0.self (sz := s.heap.size)
  clear hD0
  generalize hAe : va_A (wM k aM Mestimate Munit Msort Mwidth Mmany Mreading Mvariance Mcovariance Mline Mformulas Mroot Mkind Mone Mother Msigns Mplace MleftOf MrightOf Mtype Msum Msign MsignAt Mproduct Mvalue Mslope Mexponent Mdrawn Mslopes Mfrom Mfactor Mthrown Mlength Mmodels Mopen Mat Mrows Mx) s.heap.size = A at hD ⊢
  have hA : ∀ q : Nat, s.heap.size ≤ q → A q := fun q h => by rw [← hAe]; exact Or.inr h
  have hS : va_S A s.heap s.heap [] := va_S.rf
  have hl := lv_entry ([.ref (aM 0), .long v1]) (n := 8) (Nat.le_of_ble_eq_true rfl)
  rw [show entryFrame m args 8 = entryFrame m ([.ref (aM 0), .long v1] : List Value).toArray 8 from by rw [hav], lg_entry_eq]
  generalize (lg_sl ([.ref (aM 0), .long v1]) ++ List.replicate (8 - (lg_sl ([.ref (aM 0), .long v1])).length) Slot.unset).toArray = ls at hl ⊢
  replace hl : lv_has ls 8 [(0, .ref (aM 0)), (1, .long v1)] := hl
  refine w_q (fun Q hQ => ?_)
  unfold fX7_degreesSum at h
  show W p l e rmX7_degreesSum s m args below meth c s.heap [] 0 0 Q (F0 m 0 ls [])
  have LH_5 : ∀ (E52 : Int64 → Option (Int64)) (hE52 : ∀ (v3 : Int64), E52 v3 = some r → ∀ (H : Heap) (locs : List Loc) (ls : Array Slot), va_P D vwCl (wM k aM Mestimate Munit Msort Mwidth Mmany Mreading Mvariance Mcovariance Mline Mformulas Mroot Mkind Mone Mother Msigns Mplace MleftOf MrightOf Mtype Msum Msign MsignAt Mproduct Mvalue Mslope Mexponent Mdrawn Mslopes Mfrom Mfactor Mthrown Mlength Mmodels Mopen Mat Mrows Mx) H → va_D A (wM k aM Mestimate Munit Msort Mwidth Mmany Mreading Mvariance Mcovariance Mline Mformulas Mroot Mkind Mone Mother Msigns Mplace MleftOf MrightOf Mtype Msum Msign MsignAt Mproduct Mvalue Mslope Mexponent Mdrawn Mslopes Mfrom Mfactor Mthrown Mlength Mmodels Mopen Mat Mrows Mx) → va_S A s.heap H locs → lv_has ls 8 [(3, .long v3)] → W p l e rmX7_degreesSum s m args below meth c H locs 0 0 Q (F0 m 52 ls [])) (n : Nat) (v3 : Int64) (v5 : Int32), LX7_degreesSum_5 Msort Mmany Mvariance Mslopes v1 E52 n v3 v5 = some r → ∀ (H : Heap) (locs : List Loc) (ls : Array Slot), va_P D vwCl (wM k aM Mestimate Munit Msort Mwidth Mmany Mreading Mvariance Mcovariance Mline Mformulas Mroot Mkind Mone Mother Msigns Mplace MleftOf MrightOf Mtype Msum Msign MsignAt Mproduct Mvalue Mslope Mexponent Mdrawn Mslopes Mfrom Mfactor Mthrown Mlength Mmodels Mopen Mat Mrows Mx) H → va_D A (wM k aM Mestimate Munit Msort Mwidth Mmany Mreading Mvariance Mcovariance Mline Mformulas Mroot Mkind Mone Mother Msigns Mplace MleftOf MrightOf Mtype Msum Msign MsignAt Mproduct Mvalue Mslope Mexponent Mdrawn Mslopes Mfrom Mfactor Mthrown Mlength Mmodels Mopen Mat Mrows Mx) → va_S A s.heap H locs → lv_has ls 8 [(0, .ref (aM 0)), (1, .long v1), (3, .long v3), (5, .int v5)] → W p l e rmX7_degreesSum s m args below meth c H locs 0 0 Q (F0 m 5 ls []) := by
    intro E52 hE52 n
    induction n with
    | zero => intro v3 v5 h; simp [LX7_degreesSum_5] at h
    | succ n ih =>
    intro v3 v5 h H locs ls hP hD hS hl
    rw [LX7_degreesSum_5] at h
    refine lv_iload hx hb dX7_degreesSum_5 (lv_at hl 3 rfl) ?_
    refine lv_bipush (v := 6) hx hb dX7_degreesSum_7 (by decide) ?_
    refine lv_icmp_ge (tgt := 52) hx hb dX7_degreesSum_9 (by decide) (fun c1 => ?_) (fun c1 => ?_)
    · replace h := sf_t c1 h
      exact hE52 _ h _ _ _ hP hD hS (lv_sub hl [2] rfl)
    · replace h := sf_f c1 h
      refine lv_aload_n hx hb dX7_degreesSum_12 rfl (lv_at hl 0 rfl) ?_
      refine lv_iload hx hb dX7_degreesSum_13 (lv_at hl 3 rfl) ?_
      obtain ⟨r2, hc2, h⟩ := bnd1_inv h
      have hFc := va_free (wc := (wM k aM Mestimate Munit Msort Mwidth Mmany Mreading Mvariance Mcovariance Mline Mformulas Mroot Mkind Mone Mother Msigns Mplace MleftOf MrightOf Mtype Msum Msign MsignAt Mproduct Mvalue Mslope Mexponent Mdrawn Mslopes Mfrom Mfactor Mthrown Mlength Mmodels Mopen Mat Mrows Mx)) hD hS hA [0, 1, 2, 3, 4, 5, 6, 7, 8, 9, 10, 11, 12, 13, 14, 15, 16, 17, 18, 19, 20, 21, 22, 23, 24, 25, 26, 27, 28, 29, 30] rfl
      refine xc_i (va_runV (As := [.int v5]) (rest := []) ⟨hx, hb, hml, hown, hts⟩ (met_X7_degreesOf l D k  aM H.size Mestimate Munit Msort Mwidth Mmany Mreading Mvariance Mcovariance Mline Mformulas Mroot Mkind Mone Mother Msigns Mplace MleftOf MrightOf Mtype Msum Msign MsignAt Mproduct Mvalue Mslope Mexponent Mdrawn Mslopes Mfrom Mfactor Mthrown Mlength Mmodels Mopen Mat Mrows Mx v5 r2 hc2) (cwV 1 hts gX7_degreesSum_X7_degreesOf rfl rfl rfl (by decide +kernel) ⟨Nat.le_of_ble_eq_true rfl, Nat.le_of_ble_eq_true rfl⟩) ⟨pw_blind, va_recv hK hP (ci := 7) (q0 := 0) rfl rfl, pw_start hP hK hD⟩ rfl rfl hl.1 rfl (lv_room (Nat.le_of_ble_eq_true rfl)) dX7_degreesSum_15 ⟨Nat.zero_le _, Nat.zero_le _⟩) hS hFc (fun H1 locs hP1 hD1 hk1 hS => ?_)
      obtain ⟨hP, hD⟩ := vj_all hFc hP1 hD1
      clear hP1 hD1 hk1 hFc
      generalize H1 = H at hP hS ⊢
      refine lv_if_le (tgt := 46) hx hb dX7_degreesSum_18 (by decide) (fun c3 => ?_) (fun c3 => ?_)
      · replace h := sf_t c3 h
        refine lv_iinc (v := v5 + 1) (lv' := [(5, .int (v5 + 1)), (0, .ref (aM 0)), (1, .long v1), (3, .long v3)]) hx hb dX7_degreesSum_46 hl (k := 3) rfl rfl (by decide) rfl (fun ls hl => ?_)
        refine lv_goto (tgt := 5) hx hb dX7_degreesSum_49 (by decide) ?_
        exact ih _ _ h _ _ _ hP hD hS (lv_sub hl [1, 2, 3, 0] rfl)
      · replace h := sf_f c3 h
        refine lv_aload_n hx hb dX7_degreesSum_21 rfl (lv_at hl 0 rfl) ?_
        refine lv_iload hx hb dX7_degreesSum_22 (lv_at hl 3 rfl) ?_
        refine lv_lload_n hx hb dX7_degreesSum_24 rfl (lv_at hl 1 rfl) ?_
        obtain ⟨r4, hc4, h⟩ := bnd1_inv h
        have hFc := va_free (wc := (wM k aM Mestimate Munit Msort Mwidth Mmany Mreading Mvariance Mcovariance Mline Mformulas Mroot Mkind Mone Mother Msigns Mplace MleftOf MrightOf Mtype Msum Msign MsignAt Mproduct Mvalue Mslope Mexponent Mdrawn Mslopes Mfrom Mfactor Mthrown Mlength Mmodels Mopen Mat Mrows Mx)) hD hS hA [0, 1, 2, 3, 4, 5, 6, 7, 8, 9, 10, 11, 12, 13, 14, 15, 16, 17, 18, 19, 20, 21, 22, 23, 24, 25, 26, 27, 28, 29, 30] rfl
        refine xc_l (va_runV (As := [.int v5, .long v1]) (rest := []) ⟨hx, hb, hml, hown, hts⟩ (met_X7_shareOf l D k  aM H.size Mestimate Munit Msort Mwidth Mmany Mreading Mvariance Mcovariance Mline Mformulas Mroot Mkind Mone Mother Msigns Mplace MleftOf MrightOf Mtype Msum Msign MsignAt Mproduct Mvalue Mslope Mexponent Mdrawn Mslopes Mfrom Mfactor Mthrown Mlength Mmodels Mopen Mat Mrows Mx v5 v1 r4 hc4) (cwV 2 hts gX7_degreesSum_X7_shareOf rfl rfl rfl (by decide +kernel) ⟨Nat.le_of_ble_eq_true rfl, Nat.le_of_ble_eq_true rfl⟩) ⟨pw_blind, va_recv hK hP (ci := 7) (q0 := 0) rfl rfl, pw_start hP hK hD⟩ rfl rfl hl.1 rfl (lv_room (Nat.le_of_ble_eq_true rfl)) dX7_degreesSum_25 ⟨Nat.zero_le _, Nat.zero_le _⟩) hS hFc (fun H1 locs hP1 hD1 hk1 hS => ?_)
        obtain ⟨hP, hD⟩ := vj_all hFc hP1 hD1
        clear hP1 hD1 hk1 hFc
        generalize H1 = H at hP hS ⊢
        refine lv_lstore (lv' := [(6, .long r4), (0, .ref (aM 0)), (1, .long v1), (3, .long v3), (5, .int v5)]) hx hb dX7_degreesSum_28 hl (by decide) rfl (fun ls hl => ?_)
        refine lv_lload_n hx hb dX7_degreesSum_30 rfl (lv_at hl 3 rfl) ?_
        refine lv_lload hx hb dX7_degreesSum_31 (lv_at hl 0 rfl) ?_
        refine lv_lload hx hb dX7_degreesSum_33 (lv_at hl 0 rfl) ?_
        refine lv_lmul hx hb dX7_degreesSum_35 ?_
        refine lv_aload_n hx hb dX7_degreesSum_36 rfl (lv_at hl 1 rfl) ?_
        refine lv_iload hx hb dX7_degreesSum_37 (lv_at hl 4 rfl) ?_
        obtain ⟨r5, hc5, h⟩ := bnd1_inv h
        have hFc := va_free (wc := (wM k aM Mestimate Munit Msort Mwidth Mmany Mreading Mvariance Mcovariance Mline Mformulas Mroot Mkind Mone Mother Msigns Mplace MleftOf MrightOf Mtype Msum Msign MsignAt Mproduct Mvalue Mslope Mexponent Mdrawn Mslopes Mfrom Mfactor Mthrown Mlength Mmodels Mopen Mat Mrows Mx)) hD hS hA [0, 1, 2, 3, 4, 5, 6, 7, 8, 9, 10, 11, 12, 13, 14, 15, 16, 17, 18, 19, 20, 21, 22, 23, 24, 25, 26, 27, 28, 29, 30] rfl
        refine xc_i (va_runV (As := [.int v5]) (rest := [.long (r4 * r4), .long v3]) ⟨hx, hb, hml, hown, hts⟩ (met_X7_degreesOf l D k  aM H.size Mestimate Munit Msort Mwidth Mmany Mreading Mvariance Mcovariance Mline Mformulas Mroot Mkind Mone Mother Msigns Mplace MleftOf MrightOf Mtype Msum Msign MsignAt Mproduct Mvalue Mslope Mexponent Mdrawn Mslopes Mfrom Mfactor Mthrown Mlength Mmodels Mopen Mat Mrows Mx v5 r5 hc5) (cwV 1 hts gX7_degreesSum_X7_degreesOf rfl rfl rfl (by decide +kernel) ⟨Nat.le_of_ble_eq_true rfl, Nat.le_of_ble_eq_true rfl⟩) ⟨pw_blind, va_recv hK hP (ci := 7) (q0 := 0) rfl rfl, pw_start hP hK hD⟩ rfl rfl hl.1 rfl (lv_room (Nat.le_of_ble_eq_true rfl)) dX7_degreesSum_39 ⟨Nat.zero_le _, Nat.zero_le _⟩) hS hFc (fun H1 locs hP1 hD1 hk1 hS => ?_)
        obtain ⟨hP, hD⟩ := vj_all hFc hP1 hD1
        clear hP1 hD1 hk1 hFc
        generalize H1 = H at hP hS ⊢
        refine lv_i2l hx hb dX7_degreesSum_42 rfl ?_
        obtain ⟨hz6, h⟩ := gzL_inv h
        refine lv_ldiv hx hb dX7_degreesSum_43 hz6 ?_
        refine lv_ladd hx hb dX7_degreesSum_44 ?_
        refine lv_lstore_n (lv' := [(3, .long (v3 + ((r4 * r4) / r5.toInt64))), (6, .long r4), (0, .ref (aM 0)), (1, .long v1), (5, .int v5)]) hx hb dX7_degreesSum_45 rfl hl (by decide) rfl (fun ls hl => ?_)
        refine lv_iinc (v := v5 + 1) (lv' := [(5, .int (v5 + 1)), (3, .long (v3 + ((r4 * r4) / r5.toInt64))), (6, .long r4), (0, .ref (aM 0)), (1, .long v1)]) hx hb dX7_degreesSum_46 hl (k := 4) rfl rfl (by decide) rfl (fun ls hl => ?_)
        refine lv_goto (tgt := 5) hx hb dX7_degreesSum_49 (by decide) ?_
        exact ih _ _ h _ _ _ hP hD hS (lv_sub hl [3, 4, 1, 0] rfl)
  suffices main : ∀ (H : Heap) (locs : List Loc) (ls : Array Slot), va_P D vwCl (wM k aM Mestimate Munit Msort Mwidth Mmany Mreading Mvariance Mcovariance Mline Mformulas Mroot Mkind Mone Mother Msigns Mplace MleftOf MrightOf Mtype Msum Msign MsignAt Mproduct Mvalue Mslope Mexponent Mdrawn Mslopes Mfrom Mfactor Mthrown Mlength Mmodels Mopen Mat Mrows Mx) H → va_D A (wM k aM Mestimate Munit Msort Mwidth Mmany Mreading Mvariance Mcovariance Mline Mformulas Mroot Mkind Mone Mother Msigns Mplace MleftOf MrightOf Mtype Msum Msign MsignAt Mproduct Mvalue Mslope Mexponent Mdrawn Mslopes Mfrom Mfactor Mthrown Mlength Mmodels Mopen Mat Mrows Mx) → va_S A s.heap H locs → lv_has ls 8 [(0, .ref (aM 0)), (1, .long v1)] → W p l e rmX7_degreesSum s m args below meth c H locs 0 0 Q (F0 m 0 ls []) from main _ _ _ hP hD hS hl
  clear hP hD hS hl ls hAe
  intro H locs ls hP hD hS hl
  refine lv_lconst (v := 0) hx hb dX7_degreesSum_0 (by decide) ?_
  refine lv_lstore_n (lv' := [(3, .long 0), (0, .ref (aM 0)), (1, .long v1)]) hx hb dX7_degreesSum_1 rfl hl (by decide) rfl (fun ls hl => ?_)
  refine lv_iconst (v := 0) hx hb dX7_degreesSum_2 (by decide) ?_
  refine lv_istore (lv' := [(5, .int 0), (3, .long 0), (0, .ref (aM 0)), (1, .long v1)]) hx hb dX7_degreesSum_3 hl (by decide) rfl (fun ls hl => ?_)
  refine LH_5 _ (fun v3 h H locs ls hP hD hS hl => ?_) _ _ _ h _ _ _ hP hD hS (lv_sub hl [2, 3, 1, 0] rfl)
  · skip
    refine lv_lload_n hx hb dX7_degreesSum_52 rfl (lv_at hl 0 rfl) ?_
    have hP9 := hP
    have hD9 := hD
    have hS9 := hS
    subst hQ
    cases h
    exact W.lret hx hb hr (fun t ht hW => ⟨⟨_, (), rfl, rfl, by rw [ht]; exact hP9, va_K.moved hW.alike hK, hD9⟩, hS9.F ht⟩) hS9.2.2 dX7_degreesSum_53
def fX7_degrees (v1 : Int64) (Msort : Nat → Int32) (Mmany : Nat → Int32) (Mvariance : Nat → Int32) (Mslopes : Nat → Int64) : Option (Int64) := bnd1 (fX7_degreesSum v1 Msort Mmany Mvariance Mslopes) (fun r1 => (if (lg_cmp r1 0) = 0 then some ((-1)) else gzL r1 (some (10000 / r1))))
abbrev rmX7_degrees : Room := { frames := 3, cells := 0, slots := 0, locals := 71 }
set_option maxHeartbeats 4000000 in
set_option maxRecDepth 100000 in
theorem met_X7_degrees (l : Launch) (D : va_G) (k : Nat → ClassId)  (aM : Nat → Nat) (sz : Nat) (Mestimate : Nat → Int32) (Munit : Nat → Int32) (Msort : Nat → Int32) (Mwidth : Nat → Int32) (Mmany : Nat → Int32) (Mreading : Nat → Int32) (Mvariance : Nat → Int32) (Mcovariance : Nat → Int32) (Mline : Nat → Int32) (Mformulas : Nat → Int32) (Mroot : Nat → Int32) (Mkind : Nat → Int32) (Mone : Nat → Int32) (Mother : Nat → Int32) (Msigns : Nat → Int32) (Mplace : Nat → Int32) (MleftOf : Nat → Int32) (MrightOf : Nat → Int32) (Mtype : Nat → Int32) (Msum : Nat → Int32) (Msign : Nat → Int32) (MsignAt : Nat → Int32) (Mproduct : Nat → Int32) (Mvalue : Nat → Int64) (Mslope : Nat → Int64) (Mexponent : Nat → Int32) (Mdrawn : Nat → Int32) (Mslopes : Nat → Int64) (Mfrom : Nat → Int32) (Mfactor : Nat → Int32) (Mthrown : Int32) (Mlength : Int32) (Mmodels : Int32) (Mopen : Int32) (Mat : Int32) (Mrows : Int32) (Mx : Int32) (v1 : Int64) (r : Int64) (h : fX7_degrees v1 Msort Mmany Mvariance Mslopes = some r) : Met l yX7_degrees wsX7_degrees rmX7_degrees (va_Pc [.ref (aM 0), .long v1] (PreW D k (wM k aM Mestimate Munit Msort Mwidth Mmany Mreading Mvariance Mcovariance Mline Mformulas Mroot Mkind Mone Mother Msigns Mplace MleftOf MrightOf Mtype Msum Msign MsignAt Mproduct Mvalue Mslope Mexponent Mdrawn Mslopes Mfrom Mfactor Mthrown Mlength Mmodels Mopen Mat Mrows Mx) sz)) (va_Ql (fun r9 (_ : Unit) => r9 = r) (fun _ t => PostW D k (va_A (wM k aM Mestimate Munit Msort Mwidth Mmany Mreading Mvariance Mcovariance Mline Mformulas Mroot Mkind Mone Mother Msigns Mplace MleftOf MrightOf Mtype Msum Msign MsignAt Mproduct Mvalue Mslope Mexponent Mdrawn Mslopes Mfrom Mfactor Mthrown Mlength Mmodels Mopen Mat Mrows Mx) sz) (wM k aM Mestimate Munit Msort Mwidth Mmany Mreading Mvariance Mcovariance Mline Mformulas Mroot Mkind Mone Mother Msigns Mplace MleftOf MrightOf Mtype Msum Msign MsignAt Mproduct Mvalue Mslope Mexponent Mdrawn Mslopes Mfrom Mfactor Mthrown Mlength Mmodels Mopen Mat Mrows Mx) t) (va_A (wM k aM Mestimate Munit Msort Mwidth Mmany Mreading Mvariance Mcovariance Mline Mformulas Mroot Mkind Mone Mother Msigns Mplace MleftOf MrightOf Mtype Msum Msign MsignAt Mproduct Mvalue Mslope Mexponent Mdrawn Mslopes Mfrom Mfactor Mthrown Mlength Mmodels Mopen Mat Mrows Mx) sz)) 0 0 (va_A (wM k aM Mestimate Munit Msort Mwidth Mmany Mreading Mvariance Mcovariance Mline Mformulas Mroot Mkind Mone Mother Msigns Mplace MleftOf MrightOf Mtype Msum Msign MsignAt Mproduct Mvalue Mslope Mexponent Mdrawn Mslopes Mfrom Mfactor Mthrown Mlength Mmodels Mopen Mat Mrows Mx) sz) := by
  refine Met.ofW (cc := cX7_degrees) (maxL := 5) (ret := (some .long)) (by decide) rfl ?_
  intro p e s m args below meth c s₁ B hml hv
  obtain ⟨hav, hsz, hP, hK, hD0⟩ := hv
  have hx := B.exec
  have hb := B.bytes
  have hr := B.returns
  have hts := atoms_spec (ws := wsX7_degrees) B.pre
  have hown : s.vm.findClass RX7 = some m.cls := findClass_of_methodNamed B.named
  have hlocks := B.notSynchronized
  subst hsz
  have hD := hD0.self (sz := s.heap.size)
  clear hD0
  generalize hAe : va_A (wM k aM Mestimate Munit Msort Mwidth Mmany Mreading Mvariance Mcovariance Mline Mformulas Mroot Mkind Mone Mother Msigns Mplace MleftOf MrightOf Mtype Msum Msign MsignAt Mproduct Mvalue Mslope Mexponent Mdrawn Mslopes Mfrom Mfactor Mthrown Mlength Mmodels Mopen Mat Mrows Mx) s.heap.size = A at hD ⊢
  have hA : ∀ q : Nat, s.heap.size ≤ q → A q := fun q h => by rw [← hAe]; exact Or.inr h
  have hS : va_S A s.heap s.heap [] := va_S.rf
  have hl := lv_entry ([.ref (aM 0), .long v1]) (n := 5) (Nat.le_of_ble_eq_true rfl)
  rw [show entryFrame m args 5 = entryFrame m ([.ref (aM 0), .long v1] : List Value).toArray 5 from by rw [hav], lg_entry_eq]
  generalize (lg_sl ([.ref (aM 0), .long v1]) ++ List.replicate (5 - (lg_sl ([.ref (aM 0), .long v1])).length) Slot.unset).toArray = ls at hl ⊢
  replace hl : lv_has ls 5 [(0, .ref (aM 0)), (1, .long v1)] := hl
  have kc208 := hts (.constantLong RX7 208 (-1)) (by decide +kernel)
  have kc220 := hts (.constantLong RX7 220 (10000)) (by decide +kernel)
  refine w_q (fun Q hQ => ?_)
  unfold fX7_degrees at h
  show W p l e rmX7_degrees s m args below meth c s.heap [] 0 0 Q (F0 m 0 ls [])
  suffices main : ∀ (H : Heap) (locs : List Loc) (ls : Array Slot), va_P D vwCl (wM k aM Mestimate Munit Msort Mwidth Mmany Mreading Mvariance Mcovariance Mline Mformulas Mroot Mkind Mone Mother Msigns Mplace MleftOf MrightOf Mtype Msum Msign MsignAt Mproduct Mvalue Mslope Mexponent Mdrawn Mslopes Mfrom Mfactor Mthrown Mlength Mmodels Mopen Mat Mrows Mx) H → va_D A (wM k aM Mestimate Munit Msort Mwidth Mmany Mreading Mvariance Mcovariance Mline Mformulas Mroot Mkind Mone Mother Msigns Mplace MleftOf MrightOf Mtype Msum Msign MsignAt Mproduct Mvalue Mslope Mexponent Mdrawn Mslopes Mfrom Mfactor Mthrown Mlength Mmodels Mopen Mat Mrows Mx) → va_S A s.heap H locs → lv_has ls 5 [(0, .ref (aM 0)), (1, .long v1)] → W p l e rmX7_degrees s m args below meth c H locs 0 0 Q (F0 m 0 ls []) from main _ _ _ hP hD hS hl
  clear hP hD hS hl ls hAe
  intro H locs ls hP hD hS hl
  refine lv_aload_n hx hb dX7_degrees_0 rfl (lv_at hl 0 rfl) ?_
  refine lv_lload_n hx hb dX7_degrees_1 rfl (lv_at hl 1 rfl) ?_
  obtain ⟨r1, hc1, h⟩ := bnd1_inv h
  have hFc := va_free (wc := (wM k aM Mestimate Munit Msort Mwidth Mmany Mreading Mvariance Mcovariance Mline Mformulas Mroot Mkind Mone Mother Msigns Mplace MleftOf MrightOf Mtype Msum Msign MsignAt Mproduct Mvalue Mslope Mexponent Mdrawn Mslopes Mfrom Mfactor Mthrown Mlength Mmodels Mopen Mat Mrows Mx)) hD hS hA [0, 1, 2, 3, 4, 5, 6, 7, 8, 9, 10, 11, 12, 13, 14, 15, 16, 17, 18, 19, 20, 21, 22, 23, 24, 25, 26, 27, 28, 29, 30] rfl
  refine xc_l (va_runV (As := [.long v1]) (rest := []) ⟨hx, hb, hml, hown, hts⟩ (met_X7_degreesSum l D k  aM H.size Mestimate Munit Msort Mwidth Mmany Mreading Mvariance Mcovariance Mline Mformulas Mroot Mkind Mone Mother Msigns Mplace MleftOf MrightOf Mtype Msum Msign MsignAt Mproduct Mvalue Mslope Mexponent Mdrawn Mslopes Mfrom Mfactor Mthrown Mlength Mmodels Mopen Mat Mrows Mx v1 r1 hc1) (cwV 1 hts gX7_degrees_X7_degreesSum rfl rfl rfl (by decide +kernel) ⟨Nat.le_of_ble_eq_true rfl, Nat.le_of_ble_eq_true rfl⟩) ⟨pw_blind, va_recv hK hP (ci := 7) (q0 := 0) rfl rfl, pw_start hP hK hD⟩ rfl rfl hl.1 rfl (lv_room (Nat.le_of_ble_eq_true rfl)) dX7_degrees_2 ⟨Nat.zero_le _, Nat.zero_le _⟩) hS hFc (fun H1 locs hP1 hD1 hk1 hS => ?_)
  obtain ⟨hP, hD⟩ := vj_all hFc hP1 hD1
  clear hP1 hD1 hk1 hFc
  generalize H1 = H at hP hS ⊢
  refine lv_lstore_n (lv' := [(3, .long r1), (0, .ref (aM 0)), (1, .long v1)]) hx hb dX7_degrees_5 rfl hl (by decide) rfl (fun ls hl => ?_)
  refine lv_lload_n hx hb dX7_degrees_6 rfl (lv_at hl 0 rfl) ?_
  refine lv_lconst (v := 0) hx hb dX7_degrees_7 (by decide) ?_
  refine W.lcmp hx hb dX7_degrees_8 ?_
  refine lv_if_ne (tgt := 18) hx hb dX7_degrees_9 (by decide) (fun c2 => ?_) (fun c2 => ?_)
  · replace h := sf_f c2 h
    refine lv_ldc2 (v := 10000) hx hb hown kc220 dX7_degrees_18 ?_
    refine lv_lload_n hx hb dX7_degrees_21 rfl (lv_at hl 0 rfl) ?_
    obtain ⟨hz3, h⟩ := gzL_inv h
    refine lv_ldiv hx hb dX7_degrees_22 hz3 ?_
    have hP9 := hP
    have hD9 := hD
    have hS9 := hS
    subst hQ
    cases h
    exact W.lret hx hb hr (fun t ht hW => ⟨⟨_, (), rfl, rfl, by rw [ht]; exact hP9, va_K.moved hW.alike hK, hD9⟩, hS9.F ht⟩) hS9.2.2 dX7_degrees_23
  · replace h := sf_t c2 h
    refine lv_ldc2 (v := -1) hx hb hown kc208 dX7_degrees_12 ?_
    refine lv_goto (tgt := 23) hx hb dX7_degrees_15 (by decide) ?_
    have hP9 := hP
    have hD9 := hD
    have hS9 := hS
    subst hQ
    cases h
    exact W.lret hx hb hr (fun t ht hW => ⟨⟨_, (), rfl, rfl, by rw [ht]; exact hP9, va_K.moved hW.alike hK, hD9⟩, hS9.F ht⟩) hS9.2.2 dX7_degrees_23
