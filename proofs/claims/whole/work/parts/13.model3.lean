def BX7_factorFor_60 (Mfrom : Nat → Int32) (Mfactor : Nat → Int32) (Mrows : Int32) (v1 : Int64) (v3 : Int32) (K : Int32 → Int32 → Option (Int32)) (E82 : Int32 → Option (Int32)) (v4 : Int32) (v5 : Int32) (s0 : Int32) : Option (Int32) := (if s0 = 0 then K v4 (v5 + 1) else K v5 (v5 + 1))
def BX7_factorFor_55 (Mfrom : Nat → Int32) (Mfactor : Nat → Int32) (Mrows : Int32) (v1 : Int64) (v3 : Int32) (K : Int32 → Int32 → Option (Int32)) (E82 : Int32 → Option (Int32)) (v4 : Int32) (v5 : Int32) : Option (Int32) := BX7_factorFor_60 Mfrom Mfactor Mrows v1 v3 (K) E82 v4 v5 1
def BX7_factorFor_59 (Mfrom : Nat → Int32) (Mfactor : Nat → Int32) (Mrows : Int32) (v1 : Int64) (v3 : Int32) (K : Int32 → Int32 → Option (Int32)) (E82 : Int32 → Option (Int32)) (v4 : Int32) (v5 : Int32) : Option (Int32) := BX7_factorFor_60 Mfrom Mfactor Mrows v1 v3 (K) E82 v4 v5 0
def BX7_factorFor_32 (Mfrom : Nat → Int32) (Mfactor : Nat → Int32) (Mrows : Int32) (v1 : Int64) (v3 : Int32) (K : Int32 → Int32 → Option (Int32)) (E82 : Int32 → Option (Int32)) (v4 : Int32) (v5 : Int32) : Option (Int32) := (if v4 = ((-1)) then BX7_factorFor_55 Mfrom Mfactor Mrows v1 v3 (K) E82 v4 v5 else gi v5 12 (gi v4 12 ((if (Mfrom v5.toNatClampNeg) ≤ (Mfrom v4.toNatClampNeg) then BX7_factorFor_59 Mfrom Mfactor Mrows v1 v3 (K) E82 v4 v5 else BX7_factorFor_55 Mfrom Mfactor Mrows v1 v3 (K) E82 v4 v5))))
def LX7_factorFor_6 (Mfrom : Nat → Int32) (Mfactor : Nat → Int32) (Mrows : Int32) (v1 : Int64) (v3 : Int32) (E82 : Int32 → Option (Int32)) : Nat → Int32 → Int32 → Option (Int32)
  | 0, _, _ => none
  | fuel + 1, v4, v5 => (if Mrows ≤ v5 then E82 v4 else (if v3 = 0 then gi v5 12 ((if 0 < (lg_cmp ((Mfrom v5.toNatClampNeg).toInt64) v1) then BX7_factorFor_59 Mfrom Mfactor Mrows v1 v3 (LX7_factorFor_6 Mfrom Mfactor Mrows v1 v3 E82 fuel) E82 v4 v5 else BX7_factorFor_32 Mfrom Mfactor Mrows v1 v3 (LX7_factorFor_6 Mfrom Mfactor Mrows v1 v3 E82 fuel) E82 v4 v5)) else BX7_factorFor_32 Mfrom Mfactor Mrows v1 v3 (LX7_factorFor_6 Mfrom Mfactor Mrows v1 v3 E82 fuel) E82 v4 v5))
def fX7_factorFor (v1 : Int64) (v3 : Int32) (Mfrom : Nat → Int32) (Mfactor : Nat → Int32) (Mrows : Int32) : Option (Int32) := LX7_factorFor_6 Mfrom Mfactor Mrows v1 v3 (fun (v4 : Int32) => (if v4 = ((-1)) then some ((-1)) else gi v4 12 (some (Mfactor v4.toNatClampNeg)))) 1000 ((-1)) 0
abbrev rmX7_factorFor : Room := { frames := 0, cells := 0, slots := 0, locals := 0 }
set_option maxHeartbeats 4000000 in
set_option maxRecDepth 100000 in
theorem met_X7_factorFor (l : Launch) (D : va_G) (k : Nat → ClassId)  (aM : Nat → Nat) (sz : Nat) (Mestimate : Nat → Int32) (Munit : Nat → Int32) (Msort : Nat → Int32) (Mwidth : Nat → Int32) (Mmany : Nat → Int32) (Mreading : Nat → Int32) (Mvariance : Nat → Int32) (Mcovariance : Nat → Int32) (Mline : Nat → Int32) (Mformulas : Nat → Int32) (Mroot : Nat → Int32) (Mkind : Nat → Int32) (Mone : Nat → Int32) (Mother : Nat → Int32) (Msigns : Nat → Int32) (Mplace : Nat → Int32) (MleftOf : Nat → Int32) (MrightOf : Nat → Int32) (Mtype : Nat → Int32) (Msum : Nat → Int32) (Msign : Nat → Int32) (MsignAt : Nat → Int32) (Mproduct : Nat → Int32) (Mvalue : Nat → Int64) (Mslope : Nat → Int64) (Mexponent : Nat → Int32) (Mdrawn : Nat → Int32) (Mslopes : Nat → Int64) (Mfrom : Nat → Int32) (Mfactor : Nat → Int32) (Mthrown : Int32) (Mlength : Int32) (Mmodels : Int32) (Mopen : Int32) (Mat : Int32) (Mrows : Int32) (Mx : Int32) (v1 : Int64) (v3 : Int32) (r : Int32) (h : fX7_factorFor v1 v3 Mfrom Mfactor Mrows = some r) : Met l yX7_factorFor wsX7_factorFor rmX7_factorFor (va_Pc [.ref (aM 0), .long v1, .int v3] (PreW D k (wM k aM Mestimate Munit Msort Mwidth Mmany Mreading Mvariance Mcovariance Mline Mformulas Mroot Mkind Mone Mother Msigns Mplace MleftOf MrightOf Mtype Msum Msign MsignAt Mproduct Mvalue Mslope Mexponent Mdrawn Mslopes Mfrom Mfactor Mthrown Mlength Mmodels Mopen Mat Mrows Mx) sz)) (va_Qi (fun r9 (_ : Unit) => r9 = r) (fun _ t => PostW D k (va_A (wM k aM Mestimate Munit Msort Mwidth Mmany Mreading Mvariance Mcovariance Mline Mformulas Mroot Mkind Mone Mother Msigns Mplace MleftOf MrightOf Mtype Msum Msign MsignAt Mproduct Mvalue Mslope Mexponent Mdrawn Mslopes Mfrom Mfactor Mthrown Mlength Mmodels Mopen Mat Mrows Mx) sz) (wM k aM Mestimate Munit Msort Mwidth Mmany Mreading Mvariance Mcovariance Mline Mformulas Mroot Mkind Mone Mother Msigns Mplace MleftOf MrightOf Mtype Msum Msign MsignAt Mproduct Mvalue Mslope Mexponent Mdrawn Mslopes Mfrom Mfactor Mthrown Mlength Mmodels Mopen Mat Mrows Mx) t) (va_A (wM k aM Mestimate Munit Msort Mwidth Mmany Mreading Mvariance Mcovariance Mline Mformulas Mroot Mkind Mone Mother Msigns Mplace MleftOf MrightOf Mtype Msum Msign MsignAt Mproduct Mvalue Mslope Mexponent Mdrawn Mslopes Mfrom Mfactor Mthrown Mlength Mmodels Mopen Mat Mrows Mx) sz)) 0 0 (va_A (wM k aM Mestimate Munit Msort Mwidth Mmany Mreading Mvariance Mcovariance Mline Mformulas Mroot Mkind Mone Mother Msigns Mplace MleftOf MrightOf Mtype Msum Msign MsignAt Mproduct Mvalue Mslope Mexponent Mdrawn Mslopes Mfrom Mfactor Mthrown Mlength Mmodels Mopen Mat Mrows Mx) sz) := by
  refine Met.ofW (cc := cX7_factorFor) (maxL := 7) (ret := (some .int)) (by decide) rfl ?_
  intro p e s m args below meth c s₁ B hml hv
  obtain ⟨hav, hsz, hP, hK, hD0⟩ := hv
  have hx := B.exec
  have hb := B.bytes
  have hr := B.returns
  have hts := atoms_spec (ws := wsX7_factorFor) B.pre
  have hown : s.vm.findClass RX7 = some m.cls := findClass_of_methodNamed B.named
  have hlocks := B.notSynchronized
  subst hsz
  have hD := hD0.self (sz := s.heap.size)
  clear hD0
  generalize hAe : va_A (wM k aM Mestimate Munit Msort Mwidth Mmany Mreading Mvariance Mcovariance Mline Mformulas Mroot Mkind Mone Mother Msigns Mplace MleftOf MrightOf Mtype Msum Msign MsignAt Mproduct Mvalue Mslope Mexponent Mdrawn Mslopes Mfrom Mfactor Mthrown Mlength Mmodels Mopen Mat Mrows Mx) s.heap.size = A at hD ⊢
  have hA : ∀ q : Nat, s.heap.size ≤ q → A q := fun q h => by rw [← hAe]; exact Or.inr h
  have hS : va_S A s.heap s.heap [] := va_S.rf
  have hl := lv_entry ([.ref (aM 0), .long v1, .int v3]) (n := 7) (Nat.le_of_ble_eq_true rfl)
  rw [show entryFrame m args 7 = entryFrame m ([.ref (aM 0), .long v1, .int v3] : List Value).toArray 7 from by rw [hav], lg_entry_eq]
  generalize (lg_sl ([.ref (aM 0), .long v1, .int v3]) ++ List.replicate (7 - (lg_sl ([.ref (aM 0), .long v1, .int v3])).length) Slot.unset).toArray = ls at hl ⊢
  replace hl : lv_has ls 7 [(0, .ref (aM 0)), (1, .long v1), (3, .int v3)] := hl
  have f95 := hts (.fieldLink RX7 95 "UncertainBookModel" "rows" "I") (by decide +kernel)
  have f99 := hts (.fieldLink RX7 99 "UncertainBookModel" "from" "[I") (by decide +kernel)
  have f102 := hts (.fieldLink RX7 102 "UncertainBookModel" "factor" "[I") (by decide +kernel)
  have iX7 : ∀ w ∈ u_ws RX7 TX7 37, w ∈ wsX7_factorFor := by decide +kernel
  refine w_q (fun Q hQ => ?_)
  unfold fX7_factorFor at h
  show W p l e rmX7_factorFor s m args below meth c s.heap [] 0 0 Q (F0 m 0 ls [])
  have BH_60 : ∀ (K : Int32 → Int32 → Option (Int32)) (hKK : ∀ (v4 : Int32) (v5 : Int32), K v4 v5 = some r → ∀ (H : Heap) (locs : List Loc) (ls : Array Slot), va_P D vwCl (wM k aM Mestimate Munit Msort Mwidth Mmany Mreading Mvariance Mcovariance Mline Mformulas Mroot Mkind Mone Mother Msigns Mplace MleftOf MrightOf Mtype Msum Msign MsignAt Mproduct Mvalue Mslope Mexponent Mdrawn Mslopes Mfrom Mfactor Mthrown Mlength Mmodels Mopen Mat Mrows Mx) H → va_D A (wM k aM Mestimate Munit Msort Mwidth Mmany Mreading Mvariance Mcovariance Mline Mformulas Mroot Mkind Mone Mother Msigns Mplace MleftOf MrightOf Mtype Msum Msign MsignAt Mproduct Mvalue Mslope Mexponent Mdrawn Mslopes Mfrom Mfactor Mthrown Mlength Mmodels Mopen Mat Mrows Mx) → va_S A s.heap H locs → lv_has ls 7 [(0, .ref (aM 0)), (1, .long v1), (3, .int v3), (4, .int v4), (5, .int v5)] → W p l e rmX7_factorFor s m args below meth c H locs 0 0 Q (F0 m 6 ls [])) (E82 : Int32 → Option (Int32)) (hE82 : ∀ (v4 : Int32), E82 v4 = some r → ∀ (H : Heap) (locs : List Loc) (ls : Array Slot), va_P D vwCl (wM k aM Mestimate Munit Msort Mwidth Mmany Mreading Mvariance Mcovariance Mline Mformulas Mroot Mkind Mone Mother Msigns Mplace MleftOf MrightOf Mtype Msum Msign MsignAt Mproduct Mvalue Mslope Mexponent Mdrawn Mslopes Mfrom Mfactor Mthrown Mlength Mmodels Mopen Mat Mrows Mx) H → va_D A (wM k aM Mestimate Munit Msort Mwidth Mmany Mreading Mvariance Mcovariance Mline Mformulas Mroot Mkind Mone Mother Msigns Mplace MleftOf MrightOf Mtype Msum Msign MsignAt Mproduct Mvalue Mslope Mexponent Mdrawn Mslopes Mfrom Mfactor Mthrown Mlength Mmodels Mopen Mat Mrows Mx) → va_S A s.heap H locs → lv_has ls 7 [(0, .ref (aM 0)), (4, .int v4)] → W p l e rmX7_factorFor s m args below meth c H locs 0 0 Q (F0 m 82 ls [])) (v4 : Int32) (v5 : Int32) (s0 : Int32), BX7_factorFor_60 Mfrom Mfactor Mrows v1 v3 K E82 v4 v5 s0 = some r → ∀ (H : Heap) (locs : List Loc) (ls : Array Slot), va_P D vwCl (wM k aM Mestimate Munit Msort Mwidth Mmany Mreading Mvariance Mcovariance Mline Mformulas Mroot Mkind Mone Mother Msigns Mplace MleftOf MrightOf Mtype Msum Msign MsignAt Mproduct Mvalue Mslope Mexponent Mdrawn Mslopes Mfrom Mfactor Mthrown Mlength Mmodels Mopen Mat Mrows Mx) H → va_D A (wM k aM Mestimate Munit Msort Mwidth Mmany Mreading Mvariance Mcovariance Mline Mformulas Mroot Mkind Mone Mother Msigns Mplace MleftOf MrightOf Mtype Msum Msign MsignAt Mproduct Mvalue Mslope Mexponent Mdrawn Mslopes Mfrom Mfactor Mthrown Mlength Mmodels Mopen Mat Mrows Mx) → va_S A s.heap H locs → lv_has ls 7 [(0, .ref (aM 0)), (1, .long v1), (3, .int v3), (4, .int v4), (5, .int v5)] → W p l e rmX7_factorFor s m args below meth c H locs 0 0 Q (F0 m 60 ls [.int s0]) := by
    intro K hKK E82 hE82 v4 v5 s0 h H locs ls hP hD hS hl
    unfold BX7_factorFor_60 at h
    refine lv_istore (lv' := [(6, .int s0), (0, .ref (aM 0)), (1, .long v1), (3, .int v3), (4, .int v4), (5, .int v5)]) hx hb dX7_factorFor_60 hl (by decide) rfl (fun ls hl => ?_)
    refine lv_iload hx hb dX7_factorFor_62 (lv_at hl 0 rfl) ?_
    refine lv_if_eq (tgt := 72) hx hb dX7_factorFor_64 (by decide) (fun c4 => ?_) (fun c4 => ?_)
    · replace h := sf_t c4 h
      refine lv_iload hx hb dX7_factorFor_72 (lv_at hl 4 rfl) ?_
      refine lv_istore (lv' := [(4, .int v4), (6, .int s0), (0, .ref (aM 0)), (1, .long v1), (3, .int v3), (5, .int v5)]) hx hb dX7_factorFor_74 hl (by decide) rfl (fun ls hl => ?_)
      refine lv_iinc (v := v5 + 1) (lv' := [(5, .int (v5 + 1)), (4, .int v4), (6, .int s0), (0, .ref (aM 0)), (1, .long v1), (3, .int v3)]) hx hb dX7_factorFor_76 hl (k := 5) rfl rfl (by decide) rfl (fun ls hl => ?_)
      refine lv_goto (tgt := 6) hx hb dX7_factorFor_79 (by decide) ?_
      exact hKK _ _ h _ _ _ hP hD hS (lv_sub hl [3, 4, 5, 1, 0] rfl)
    · replace h := sf_f c4 h
      refine lv_iload hx hb dX7_factorFor_67 (lv_at hl 5 rfl) ?_
      refine lv_goto (tgt := 74) hx hb dX7_factorFor_69 (by decide) ?_
      refine lv_istore (lv' := [(4, .int v5), (6, .int s0), (0, .ref (aM 0)), (1, .long v1), (3, .int v3), (5, .int v5)]) hx hb dX7_factorFor_74 hl (by decide) rfl (fun ls hl => ?_)
      refine lv_iinc (v := v5 + 1) (lv' := [(5, .int (v5 + 1)), (4, .int v5), (6, .int s0), (0, .ref (aM 0)), (1, .long v1), (3, .int v3)]) hx hb dX7_factorFor_76 hl (k := 5) rfl rfl (by decide) rfl (fun ls hl => ?_)
      refine lv_goto (tgt := 6) hx hb dX7_factorFor_79 (by decide) ?_
      exact hKK _ _ h _ _ _ hP hD hS (lv_sub hl [3, 4, 5, 1, 0] rfl)
  have BH_55 : ∀ (K : Int32 → Int32 → Option (Int32)) (hKK : ∀ (v4 : Int32) (v5 : Int32), K v4 v5 = some r → ∀ (H : Heap) (locs : List Loc) (ls : Array Slot), va_P D vwCl (wM k aM Mestimate Munit Msort Mwidth Mmany Mreading Mvariance Mcovariance Mline Mformulas Mroot Mkind Mone Mother Msigns Mplace MleftOf MrightOf Mtype Msum Msign MsignAt Mproduct Mvalue Mslope Mexponent Mdrawn Mslopes Mfrom Mfactor Mthrown Mlength Mmodels Mopen Mat Mrows Mx) H → va_D A (wM k aM Mestimate Munit Msort Mwidth Mmany Mreading Mvariance Mcovariance Mline Mformulas Mroot Mkind Mone Mother Msigns Mplace MleftOf MrightOf Mtype Msum Msign MsignAt Mproduct Mvalue Mslope Mexponent Mdrawn Mslopes Mfrom Mfactor Mthrown Mlength Mmodels Mopen Mat Mrows Mx) → va_S A s.heap H locs → lv_has ls 7 [(0, .ref (aM 0)), (1, .long v1), (3, .int v3), (4, .int v4), (5, .int v5)] → W p l e rmX7_factorFor s m args below meth c H locs 0 0 Q (F0 m 6 ls [])) (E82 : Int32 → Option (Int32)) (hE82 : ∀ (v4 : Int32), E82 v4 = some r → ∀ (H : Heap) (locs : List Loc) (ls : Array Slot), va_P D vwCl (wM k aM Mestimate Munit Msort Mwidth Mmany Mreading Mvariance Mcovariance Mline Mformulas Mroot Mkind Mone Mother Msigns Mplace MleftOf MrightOf Mtype Msum Msign MsignAt Mproduct Mvalue Mslope Mexponent Mdrawn Mslopes Mfrom Mfactor Mthrown Mlength Mmodels Mopen Mat Mrows Mx) H → va_D A (wM k aM Mestimate Munit Msort Mwidth Mmany Mreading Mvariance Mcovariance Mline Mformulas Mroot Mkind Mone Mother Msigns Mplace MleftOf MrightOf Mtype Msum Msign MsignAt Mproduct Mvalue Mslope Mexponent Mdrawn Mslopes Mfrom Mfactor Mthrown Mlength Mmodels Mopen Mat Mrows Mx) → va_S A s.heap H locs → lv_has ls 7 [(0, .ref (aM 0)), (4, .int v4)] → W p l e rmX7_factorFor s m args below meth c H locs 0 0 Q (F0 m 82 ls [])) (v4 : Int32) (v5 : Int32), BX7_factorFor_55 Mfrom Mfactor Mrows v1 v3 K E82 v4 v5 = some r → ∀ (H : Heap) (locs : List Loc) (ls : Array Slot), va_P D vwCl (wM k aM Mestimate Munit Msort Mwidth Mmany Mreading Mvariance Mcovariance Mline Mformulas Mroot Mkind Mone Mother Msigns Mplace MleftOf MrightOf Mtype Msum Msign MsignAt Mproduct Mvalue Mslope Mexponent Mdrawn Mslopes Mfrom Mfactor Mthrown Mlength Mmodels Mopen Mat Mrows Mx) H → va_D A (wM k aM Mestimate Munit Msort Mwidth Mmany Mreading Mvariance Mcovariance Mline Mformulas Mroot Mkind Mone Mother Msigns Mplace MleftOf MrightOf Mtype Msum Msign MsignAt Mproduct Mvalue Mslope Mexponent Mdrawn Mslopes Mfrom Mfactor Mthrown Mlength Mmodels Mopen Mat Mrows Mx) → va_S A s.heap H locs → lv_has ls 7 [(0, .ref (aM 0)), (1, .long v1), (3, .int v3), (4, .int v4), (5, .int v5)] → W p l e rmX7_factorFor s m args below meth c H locs 0 0 Q (F0 m 55 ls []) := by
    intro K hKK E82 hE82 v4 v5 h H locs ls hP hD hS hl
    unfold BX7_factorFor_55 at h
    refine lv_iconst (v := 1) hx hb dX7_factorFor_55 (by decide) ?_
    refine lv_goto (tgt := 60) hx hb dX7_factorFor_56 (by decide) ?_
    exact BH_60 _ hKK _ hE82 _ _ _ h _ _ _ hP hD hS (lv_sub hl [0, 1, 2, 3, 4] rfl)
  have BH_59 : ∀ (K : Int32 → Int32 → Option (Int32)) (hKK : ∀ (v4 : Int32) (v5 : Int32), K v4 v5 = some r → ∀ (H : Heap) (locs : List Loc) (ls : Array Slot), va_P D vwCl (wM k aM Mestimate Munit Msort Mwidth Mmany Mreading Mvariance Mcovariance Mline Mformulas Mroot Mkind Mone Mother Msigns Mplace MleftOf MrightOf Mtype Msum Msign MsignAt Mproduct Mvalue Mslope Mexponent Mdrawn Mslopes Mfrom Mfactor Mthrown Mlength Mmodels Mopen Mat Mrows Mx) H → va_D A (wM k aM Mestimate Munit Msort Mwidth Mmany Mreading Mvariance Mcovariance Mline Mformulas Mroot Mkind Mone Mother Msigns Mplace MleftOf MrightOf Mtype Msum Msign MsignAt Mproduct Mvalue Mslope Mexponent Mdrawn Mslopes Mfrom Mfactor Mthrown Mlength Mmodels Mopen Mat Mrows Mx) → va_S A s.heap H locs → lv_has ls 7 [(0, .ref (aM 0)), (1, .long v1), (3, .int v3), (4, .int v4), (5, .int v5)] → W p l e rmX7_factorFor s m args below meth c H locs 0 0 Q (F0 m 6 ls [])) (E82 : Int32 → Option (Int32)) (hE82 : ∀ (v4 : Int32), E82 v4 = some r → ∀ (H : Heap) (locs : List Loc) (ls : Array Slot), va_P D vwCl (wM k aM Mestimate Munit Msort Mwidth Mmany Mreading Mvariance Mcovariance Mline Mformulas Mroot Mkind Mone Mother Msigns Mplace MleftOf MrightOf Mtype Msum Msign MsignAt Mproduct Mvalue Mslope Mexponent Mdrawn Mslopes Mfrom Mfactor Mthrown Mlength Mmodels Mopen Mat Mrows Mx) H → va_D A (wM k aM Mestimate Munit Msort Mwidth Mmany Mreading Mvariance Mcovariance Mline Mformulas Mroot Mkind Mone Mother Msigns Mplace MleftOf MrightOf Mtype Msum Msign MsignAt Mproduct Mvalue Mslope Mexponent Mdrawn Mslopes Mfrom Mfactor Mthrown Mlength Mmodels Mopen Mat Mrows Mx) → va_S A s.heap H locs → lv_has ls 7 [(0, .ref (aM 0)), (4, .int v4)] → W p l e rmX7_factorFor s m args below meth c H locs 0 0 Q (F0 m 82 ls [])) (v4 : Int32) (v5 : Int32), BX7_factorFor_59 Mfrom Mfactor Mrows v1 v3 K E82 v4 v5 = some r → ∀ (H : Heap) (locs : List Loc) (ls : Array Slot), va_P D vwCl (wM k aM Mestimate Munit Msort Mwidth Mmany Mreading Mvariance Mcovariance Mline Mformulas Mroot Mkind Mone Mother Msigns Mplace MleftOf MrightOf Mtype Msum Msign MsignAt Mproduct Mvalue Mslope Mexponent Mdrawn Mslopes Mfrom Mfactor Mthrown Mlength Mmodels Mopen Mat Mrows Mx) H → va_D A (wM k aM Mestimate Munit Msort Mwidth Mmany Mreading Mvariance Mcovariance Mline Mformulas Mroot Mkind Mone Mother Msigns Mplace MleftOf MrightOf Mtype Msum Msign MsignAt Mproduct Mvalue Mslope Mexponent Mdrawn Mslopes Mfrom Mfactor Mthrown Mlength Mmodels Mopen Mat Mrows Mx) → va_S A s.heap H locs → lv_has ls 7 [(0, .ref (aM 0)), (1, .long v1), (3, .int v3), (4, .int v4), (5, .int v5)] → W p l e rmX7_factorFor s m args below meth c H locs 0 0 Q (F0 m 59 ls []) := by
    intro K hKK E82 hE82 v4 v5 h H locs ls hP hD hS hl
    unfold BX7_factorFor_59 at h
    refine lv_iconst (v := 0) hx hb dX7_factorFor_59 (by decide) ?_
    exact BH_60 _ hKK _ hE82 _ _ _ h _ _ _ hP hD hS (lv_sub hl [0, 1, 2, 3, 4] rfl)
  have BH_32 : ∀ (K : Int32 → Int32 → Option (Int32)) (hKK : ∀ (v4 : Int32) (v5 : Int32), K v4 v5 = some r → ∀ (H : Heap) (locs : List Loc) (ls : Array Slot), va_P D vwCl (wM k aM Mestimate Munit Msort Mwidth Mmany Mreading Mvariance Mcovariance Mline Mformulas Mroot Mkind Mone Mother Msigns Mplace MleftOf MrightOf Mtype Msum Msign MsignAt Mproduct Mvalue Mslope Mexponent Mdrawn Mslopes Mfrom Mfactor Mthrown Mlength Mmodels Mopen Mat Mrows Mx) H → va_D A (wM k aM Mestimate Munit Msort Mwidth Mmany Mreading Mvariance Mcovariance Mline Mformulas Mroot Mkind Mone Mother Msigns Mplace MleftOf MrightOf Mtype Msum Msign MsignAt Mproduct Mvalue Mslope Mexponent Mdrawn Mslopes Mfrom Mfactor Mthrown Mlength Mmodels Mopen Mat Mrows Mx) → va_S A s.heap H locs → lv_has ls 7 [(0, .ref (aM 0)), (1, .long v1), (3, .int v3), (4, .int v4), (5, .int v5)] → W p l e rmX7_factorFor s m args below meth c H locs 0 0 Q (F0 m 6 ls [])) (E82 : Int32 → Option (Int32)) (hE82 : ∀ (v4 : Int32), E82 v4 = some r → ∀ (H : Heap) (locs : List Loc) (ls : Array Slot), va_P D vwCl (wM k aM Mestimate Munit Msort Mwidth Mmany Mreading Mvariance Mcovariance Mline Mformulas Mroot Mkind Mone Mother Msigns Mplace MleftOf MrightOf Mtype Msum Msign MsignAt Mproduct Mvalue Mslope Mexponent Mdrawn Mslopes Mfrom Mfactor Mthrown Mlength Mmodels Mopen Mat Mrows Mx) H → va_D A (wM k aM Mestimate Munit Msort Mwidth Mmany Mreading Mvariance Mcovariance Mline Mformulas Mroot Mkind Mone Mother Msigns Mplace MleftOf MrightOf Mtype Msum Msign MsignAt Mproduct Mvalue Mslope Mexponent Mdrawn Mslopes Mfrom Mfactor Mthrown Mlength Mmodels Mopen Mat Mrows Mx) → va_S A s.heap H locs → lv_has ls 7 [(0, .ref (aM 0)), (4, .int v4)] → W p l e rmX7_factorFor s m args below meth c H locs 0 0 Q (F0 m 82 ls [])) (v4 : Int32) (v5 : Int32), BX7_factorFor_32 Mfrom Mfactor Mrows v1 v3 K E82 v4 v5 = some r → ∀ (H : Heap) (locs : List Loc) (ls : Array Slot), va_P D vwCl (wM k aM Mestimate Munit Msort Mwidth Mmany Mreading Mvariance Mcovariance Mline Mformulas Mroot Mkind Mone Mother Msigns Mplace MleftOf MrightOf Mtype Msum Msign MsignAt Mproduct Mvalue Mslope Mexponent Mdrawn Mslopes Mfrom Mfactor Mthrown Mlength Mmodels Mopen Mat Mrows Mx) H → va_D A (wM k aM Mestimate Munit Msort Mwidth Mmany Mreading Mvariance Mcovariance Mline Mformulas Mroot Mkind Mone Mother Msigns Mplace MleftOf MrightOf Mtype Msum Msign MsignAt Mproduct Mvalue Mslope Mexponent Mdrawn Mslopes Mfrom Mfactor Mthrown Mlength Mmodels Mopen Mat Mrows Mx) → va_S A s.heap H locs → lv_has ls 7 [(0, .ref (aM 0)), (1, .long v1), (3, .int v3), (4, .int v4), (5, .int v5)] → W p l e rmX7_factorFor s m args below meth c H locs 0 0 Q (F0 m 32 ls []) := by
    intro K hKK E82 hE82 v4 v5 h H locs ls hP hD hS hl
    unfold BX7_factorFor_32 at h
    refine lv_iload hx hb dX7_factorFor_32 (lv_at hl 3 rfl) ?_
    refine lv_iconst (v := -1) hx hb dX7_factorFor_34 (by decide) ?_
    refine lv_icmp_eq (tgt := 55) hx hb dX7_factorFor_35 (by decide) (fun c3 => ?_) (fun c3 => ?_)
    · replace h := sf_t c3 h
      exact BH_55 _ hKK _ hE82 _ _ h _ _ _ hP hD hS (lv_sub hl [0, 1, 2, 3, 4] rfl)
    · replace h := sf_f c3 h
      refine lv_aload_n hx hb dX7_factorFor_38 rfl (lv_at hl 0 rfl) ?_
      refine va_get (D := D) (ci := 7) (v := .ref (aM 29)) (C := RX7) (T := TX7) (N := 37) hx hb hts iX7 hown hK hP 0 rfl rfl 34 (by decide) f99 (fun _ h9 => h9) rfl dX7_factorFor_39 ?_
      refine lv_iload hx hb dX7_factorFor_42 (lv_at hl 4 rfl) ?_
      obtain ⟨hi5, h⟩ := gi_inv h
      refine va_iald hx hb hK hP 29 0 rfl rfl hi5 dX7_factorFor_44 ?_
      refine lv_aload_n hx hb dX7_factorFor_45 rfl (lv_at hl 0 rfl) ?_
      refine va_get (D := D) (ci := 7) (v := .ref (aM 29)) (C := RX7) (T := TX7) (N := 37) hx hb hts iX7 hown hK hP 0 rfl rfl 34 (by decide) f99 (fun _ h9 => h9) rfl dX7_factorFor_46 ?_
      refine lv_iload hx hb dX7_factorFor_49 (lv_at hl 3 rfl) ?_
      obtain ⟨hi6, h⟩ := gi_inv h
      refine va_iald hx hb hK hP 29 0 rfl rfl hi6 dX7_factorFor_51 ?_
      refine lv_icmp_le (tgt := 59) hx hb dX7_factorFor_52 (by decide) (fun c7 => ?_) (fun c7 => ?_)
      · replace h := sf_t c7 h
        exact BH_59 _ hKK _ hE82 _ _ h _ _ _ hP hD hS (lv_sub hl [0, 1, 2, 3, 4] rfl)
      · replace h := sf_f c7 h
        exact BH_55 _ hKK _ hE82 _ _ h _ _ _ hP hD hS (lv_sub hl [0, 1, 2, 3, 4] rfl)
  have LH_6 : ∀ (E82 : Int32 → Option (Int32)) (hE82 : ∀ (v4 : Int32), E82 v4 = some r → ∀ (H : Heap) (locs : List Loc) (ls : Array Slot), va_P D vwCl (wM k aM Mestimate Munit Msort Mwidth Mmany Mreading Mvariance Mcovariance Mline Mformulas Mroot Mkind Mone Mother Msigns Mplace MleftOf MrightOf Mtype Msum Msign MsignAt Mproduct Mvalue Mslope Mexponent Mdrawn Mslopes Mfrom Mfactor Mthrown Mlength Mmodels Mopen Mat Mrows Mx) H → va_D A (wM k aM Mestimate Munit Msort Mwidth Mmany Mreading Mvariance Mcovariance Mline Mformulas Mroot Mkind Mone Mother Msigns Mplace MleftOf MrightOf Mtype Msum Msign MsignAt Mproduct Mvalue Mslope Mexponent Mdrawn Mslopes Mfrom Mfactor Mthrown Mlength Mmodels Mopen Mat Mrows Mx) → va_S A s.heap H locs → lv_has ls 7 [(0, .ref (aM 0)), (4, .int v4)] → W p l e rmX7_factorFor s m args below meth c H locs 0 0 Q (F0 m 82 ls [])) (n : Nat) (v4 : Int32) (v5 : Int32), LX7_factorFor_6 Mfrom Mfactor Mrows v1 v3 E82 n v4 v5 = some r → ∀ (H : Heap) (locs : List Loc) (ls : Array Slot), va_P D vwCl (wM k aM Mestimate Munit Msort Mwidth Mmany Mreading Mvariance Mcovariance Mline Mformulas Mroot Mkind Mone Mother Msigns Mplace MleftOf MrightOf Mtype Msum Msign MsignAt Mproduct Mvalue Mslope Mexponent Mdrawn Mslopes Mfrom Mfactor Mthrown Mlength Mmodels Mopen Mat Mrows Mx) H → va_D A (wM k aM Mestimate Munit Msort Mwidth Mmany Mreading Mvariance Mcovariance Mline Mformulas Mroot Mkind Mone Mother Msigns Mplace MleftOf MrightOf Mtype Msum Msign MsignAt Mproduct Mvalue Mslope Mexponent Mdrawn Mslopes Mfrom Mfactor Mthrown Mlength Mmodels Mopen Mat Mrows Mx) → va_S A s.heap H locs → lv_has ls 7 [(0, .ref (aM 0)), (1, .long v1), (3, .int v3), (4, .int v4), (5, .int v5)] → W p l e rmX7_factorFor s m args below meth c H locs 0 0 Q (F0 m 6 ls []) := by
    intro E82 hE82 n
    induction n with
    | zero => intro v4 v5 h; simp [LX7_factorFor_6] at h
    | succ n ih =>
    intro v4 v5 h H locs ls hP hD hS hl
    rw [LX7_factorFor_6] at h
    refine lv_iload hx hb dX7_factorFor_6 (lv_at hl 4 rfl) ?_
    refine lv_aload_n hx hb dX7_factorFor_8 rfl (lv_at hl 0 rfl) ?_
    refine va_get (D := D) (ci := 7) (v := .int Mrows) (C := RX7) (T := TX7) (N := 37) hx hb hts iX7 hown hK hP 0 rfl rfl 33 (by decide) f95 (fun _ h9 => h9) rfl dX7_factorFor_9 ?_
    refine lv_icmp_ge (tgt := 82) hx hb dX7_factorFor_12 (by decide) (fun c1 => ?_) (fun c1 => ?_)
    · replace h := sf_t c1 h
      exact hE82 _ h _ _ _ hP hD hS (lv_sub hl [0, 3] rfl)
    · replace h := sf_f c1 h
      refine lv_iload_n hx hb dX7_factorFor_15 rfl (lv_at hl 2 rfl) ?_
      refine lv_if_ne (tgt := 32) hx hb dX7_factorFor_16 (by decide) (fun c2 => ?_) (fun c2 => ?_)
      · replace h := sf_f c2 h
        exact BH_32 _ ih _ hE82 _ _ h _ _ _ hP hD hS (lv_sub hl [0, 1, 2, 3, 4] rfl)
      · replace h := sf_t c2 h
        refine lv_aload_n hx hb dX7_factorFor_19 rfl (lv_at hl 0 rfl) ?_
        refine va_get (D := D) (ci := 7) (v := .ref (aM 29)) (C := RX7) (T := TX7) (N := 37) hx hb hts iX7 hown hK hP 0 rfl rfl 34 (by decide) f99 (fun _ h9 => h9) rfl dX7_factorFor_20 ?_
        refine lv_iload hx hb dX7_factorFor_23 (lv_at hl 4 rfl) ?_
        obtain ⟨hi8, h⟩ := gi_inv h
        refine va_iald hx hb hK hP 29 0 rfl rfl hi8 dX7_factorFor_25 ?_
        refine lv_i2l hx hb dX7_factorFor_26 rfl ?_
        refine lv_lload_n hx hb dX7_factorFor_27 rfl (lv_at hl 1 rfl) ?_
        refine W.lcmp hx hb dX7_factorFor_28 ?_
        refine lv_if_gt (tgt := 59) hx hb dX7_factorFor_29 (by decide) (fun c9 => ?_) (fun c9 => ?_)
        · replace h := sf_t c9 h
          exact BH_59 _ ih _ hE82 _ _ h _ _ _ hP hD hS (lv_sub hl [0, 1, 2, 3, 4] rfl)
        · replace h := sf_f c9 h
          exact BH_32 _ ih _ hE82 _ _ h _ _ _ hP hD hS (lv_sub hl [0, 1, 2, 3, 4] rfl)
  suffices main : ∀ (H : Heap) (locs : List Loc) (ls : Array Slot), va_P D vwCl (wM k aM Mestimate Munit Msort Mwidth Mmany Mreading Mvariance Mcovariance Mline Mformulas Mroot Mkind Mone Mother Msigns Mplace MleftOf MrightOf Mtype Msum Msign MsignAt Mproduct Mvalue Mslope Mexponent Mdrawn Mslopes Mfrom Mfactor Mthrown Mlength Mmodels Mopen Mat Mrows Mx) H → va_D A (wM k aM Mestimate Munit Msort Mwidth Mmany Mreading Mvariance Mcovariance Mline Mformulas Mroot Mkind Mone Mother Msigns Mplace MleftOf MrightOf Mtype Msum Msign MsignAt Mproduct Mvalue Mslope Mexponent Mdrawn Mslopes Mfrom Mfactor Mthrown Mlength Mmodels Mopen Mat Mrows Mx) → va_S A s.heap H locs → lv_has ls 7 [(0, .ref (aM 0)), (1, .long v1), (3, .int v3)] → W p l e rmX7_factorFor s m args below meth c H locs 0 0 Q (F0 m 0 ls []) from main _ _ _ hP hD hS hl
  clear hP hD hS hl ls hAe
  intro H locs ls hP hD hS hl
  refine lv_iconst (v := -1) hx hb dX7_factorFor_0 (by decide) ?_
  refine lv_istore (lv' := [(4, .int ((-1))), (0, .ref (aM 0)), (1, .long v1), (3, .int v3)]) hx hb dX7_factorFor_1 hl (by decide) rfl (fun ls hl => ?_)
  refine lv_iconst (v := 0) hx hb dX7_factorFor_3 (by decide) ?_
  refine lv_istore (lv' := [(5, .int 0), (4, .int ((-1))), (0, .ref (aM 0)), (1, .long v1), (3, .int v3)]) hx hb dX7_factorFor_4 hl (by decide) rfl (fun ls hl => ?_)
  refine LH_6 _ (fun v4 h H locs ls hP hD hS hl => ?_) _ _ _ h _ _ _ hP hD hS (lv_sub hl [2, 3, 4, 1, 0] rfl)
  · skip
    refine lv_iload hx hb dX7_factorFor_82 (lv_at hl 1 rfl) ?_
    refine lv_iconst (v := -1) hx hb dX7_factorFor_84 (by decide) ?_
    refine lv_icmp_ne (tgt := 92) hx hb dX7_factorFor_85 (by decide) (fun c10 => ?_) (fun c10 => ?_)
    · replace h := sf_f c10 h
      refine lv_aload_n hx hb dX7_factorFor_92 rfl (lv_at hl 0 rfl) ?_
      refine va_get (D := D) (ci := 7) (v := .ref (aM 30)) (C := RX7) (T := TX7) (N := 37) hx hb hts iX7 hown hK hP 0 rfl rfl 35 (by decide) f102 (fun _ h9 => h9) rfl dX7_factorFor_93 ?_
      refine lv_iload hx hb dX7_factorFor_96 (lv_at hl 1 rfl) ?_
      obtain ⟨hi11, h⟩ := gi_inv h
      refine va_iald hx hb hK hP 30 0 rfl rfl hi11 dX7_factorFor_98 ?_
      have hP9 := hP
      have hD9 := hD
      have hS9 := hS
      subst hQ
      cases h
      exact W.iret hx hb hr (fun t ht hW => ⟨⟨_, (), rfl, rfl, by rw [ht]; exact hP9, va_K.moved hW.alike hK, hD9⟩, hS9.F ht⟩) hS9.2.2 dX7_factorFor_99
    · replace h := sf_t c10 h
      refine lv_iconst (v := -1) hx hb dX7_factorFor_88 (by decide) ?_
      refine lv_goto (tgt := 99) hx hb dX7_factorFor_89 (by decide) ?_
      have hP9 := hP
      have hD9 := hD
      have hS9 := hS
      subst hQ
      cases h
      exact W.iret hx hb hr (fun t ht hW => ⟨⟨_, (), rfl, rfl, by rw [ht]; exact hP9, va_K.moved hW.alike hK, hD9⟩, hS9.F ht⟩) hS9.2.2 dX7_factorFor_99
def fX7_hasNone (v1 : Int64) (Msort : Nat → Int32) (Mmany : Nat → Int32) (Mvariance : Nat → Int32) (Mslopes : Nat → Int64) : Option (Int32) := bnd1 (fX7_degreesSum v1 Msort Mmany Mvariance Mslopes) (fun r1 => (if (lg_cmp r1 0) = 0 then some (1) else some (0)))
abbrev rmX7_hasNone : Room := { frames := 3, cells := 0, slots := 0, locals := 71 }
set_option maxHeartbeats 4000000 in
set_option maxRecDepth 100000 in
theorem met_X7_hasNone (l : Launch) (D : va_G) (k : Nat → ClassId)  (aM : Nat → Nat) (sz : Nat) (Mestimate : Nat → Int32) (Munit : Nat → Int32) (Msort : Nat → Int32) (Mwidth : Nat → Int32) (Mmany : Nat → Int32) (Mreading : Nat → Int32) (Mvariance : Nat → Int32) (Mcovariance : Nat → Int32) (Mline : Nat → Int32) (Mformulas : Nat → Int32) (Mroot : Nat → Int32) (Mkind : Nat → Int32) (Mone : Nat → Int32) (Mother : Nat → Int32) (Msigns : Nat → Int32) (Mplace : Nat → Int32) (MleftOf : Nat → Int32) (MrightOf : Nat → Int32) (Mtype : Nat → Int32) (Msum : Nat → Int32) (Msign : Nat → Int32) (MsignAt : Nat → Int32) (Mproduct : Nat → Int32) (Mvalue : Nat → Int64) (Mslope : Nat → Int64) (Mexponent : Nat → Int32) (Mdrawn : Nat → Int32) (Mslopes : Nat → Int64) (Mfrom : Nat → Int32) (Mfactor : Nat → Int32) (Mthrown : Int32) (Mlength : Int32) (Mmodels : Int32) (Mopen : Int32) (Mat : Int32) (Mrows : Int32) (Mx : Int32) (v1 : Int64) (r : Int32) (h : fX7_hasNone v1 Msort Mmany Mvariance Mslopes = some r) : Met l yX7_hasNone wsX7_hasNone rmX7_hasNone (va_Pc [.ref (aM 0), .long v1] (PreW D k (wM k aM Mestimate Munit Msort Mwidth Mmany Mreading Mvariance Mcovariance Mline Mformulas Mroot Mkind Mone Mother Msigns Mplace MleftOf MrightOf Mtype Msum Msign MsignAt Mproduct Mvalue Mslope Mexponent Mdrawn Mslopes Mfrom Mfactor Mthrown Mlength Mmodels Mopen Mat Mrows Mx) sz)) (va_Qi (fun r9 (_ : Unit) => r9 = r) (fun _ t => PostW D k (va_A (wM k aM Mestimate Munit Msort Mwidth Mmany Mreading Mvariance Mcovariance Mline Mformulas Mroot Mkind Mone Mother Msigns Mplace MleftOf MrightOf Mtype Msum Msign MsignAt Mproduct Mvalue Mslope Mexponent Mdrawn Mslopes Mfrom Mfactor Mthrown Mlength Mmodels Mopen Mat Mrows Mx) sz) (wM k aM Mestimate Munit Msort Mwidth Mmany Mreading Mvariance Mcovariance Mline Mformulas Mroot Mkind Mone Mother Msigns Mplace MleftOf MrightOf Mtype Msum Msign MsignAt Mproduct Mvalue Mslope Mexponent Mdrawn Mslopes Mfrom Mfactor Mthrown Mlength Mmodels Mopen Mat Mrows Mx) t) (va_A (wM k aM Mestimate Munit Msort Mwidth Mmany Mreading Mvariance Mcovariance Mline Mformulas Mroot Mkind Mone Mother Msigns Mplace MleftOf MrightOf Mtype Msum Msign MsignAt Mproduct Mvalue Mslope Mexponent Mdrawn Mslopes Mfrom Mfactor Mthrown Mlength Mmodels Mopen Mat Mrows Mx) sz)) 0 0 (va_A (wM k aM Mestimate Munit Msort Mwidth Mmany Mreading Mvariance Mcovariance Mline Mformulas Mroot Mkind Mone Mother Msigns Mplace MleftOf MrightOf Mtype Msum Msign MsignAt Mproduct Mvalue Mslope Mexponent Mdrawn Mslopes Mfrom Mfactor Mthrown Mlength Mmodels Mopen Mat Mrows Mx) sz) := by
  refine Met.ofW (cc := cX7_hasNone) (maxL := 3) (ret := (some .boolean)) (by decide) rfl ?_
  intro p e s m args below meth c s₁ B hml hv
  obtain ⟨hav, hsz, hP, hK, hD0⟩ := hv
  have hx := B.exec
  have hb := B.bytes
  have hr := B.returns
  have hts := atoms_spec (ws := wsX7_hasNone) B.pre
  have hown : s.vm.findClass RX7 = some m.cls := findClass_of_methodNamed B.named
  have hlocks := B.notSynchronized
  subst hsz
  have hD := hD0.self (sz := s.heap.size)
  clear hD0
  generalize hAe : va_A (wM k aM Mestimate Munit Msort Mwidth Mmany Mreading Mvariance Mcovariance Mline Mformulas Mroot Mkind Mone Mother Msigns Mplace MleftOf MrightOf Mtype Msum Msign MsignAt Mproduct Mvalue Mslope Mexponent Mdrawn Mslopes Mfrom Mfactor Mthrown Mlength Mmodels Mopen Mat Mrows Mx) s.heap.size = A at hD ⊢
  have hA : ∀ q : Nat, s.heap.size ≤ q → A q := fun q h => by rw [← hAe]; exact Or.inr h
  have hS : va_S A s.heap s.heap [] := va_S.rf
  have hl := lv_entry ([.ref (aM 0), .long v1]) (n := 3) (Nat.le_of_ble_eq_true rfl)
  rw [show entryFrame m args 3 = entryFrame m ([.ref (aM 0), .long v1] : List Value).toArray 3 from by rw [hav], lg_entry_eq]
  generalize (lg_sl ([.ref (aM 0), .long v1]) ++ List.replicate (3 - (lg_sl ([.ref (aM 0), .long v1])).length) Slot.unset).toArray = ls at hl ⊢
  replace hl : lv_has ls 3 [(0, .ref (aM 0)), (1, .long v1)] := hl
  refine w_q (fun Q hQ => ?_)
  unfold fX7_hasNone at h
  show W p l e rmX7_hasNone s m args below meth c s.heap [] 0 0 Q (F0 m 0 ls [])
  suffices main : ∀ (H : Heap) (locs : List Loc) (ls : Array Slot), va_P D vwCl (wM k aM Mestimate Munit Msort Mwidth Mmany Mreading Mvariance Mcovariance Mline Mformulas Mroot Mkind Mone Mother Msigns Mplace MleftOf MrightOf Mtype Msum Msign MsignAt Mproduct Mvalue Mslope Mexponent Mdrawn Mslopes Mfrom Mfactor Mthrown Mlength Mmodels Mopen Mat Mrows Mx) H → va_D A (wM k aM Mestimate Munit Msort Mwidth Mmany Mreading Mvariance Mcovariance Mline Mformulas Mroot Mkind Mone Mother Msigns Mplace MleftOf MrightOf Mtype Msum Msign MsignAt Mproduct Mvalue Mslope Mexponent Mdrawn Mslopes Mfrom Mfactor Mthrown Mlength Mmodels Mopen Mat Mrows Mx) → va_S A s.heap H locs → lv_has ls 3 [(0, .ref (aM 0)), (1, .long v1)] → W p l e rmX7_hasNone s m args below meth c H locs 0 0 Q (F0 m 0 ls []) from main _ _ _ hP hD hS hl
  clear hP hD hS hl ls hAe
  intro H locs ls hP hD hS hl
  refine lv_aload_n hx hb dX7_hasNone_0 rfl (lv_at hl 0 rfl) ?_
  refine lv_lload_n hx hb dX7_hasNone_1 rfl (lv_at hl 1 rfl) ?_
  obtain ⟨r1, hc1, h⟩ := bnd1_inv h
  have hFc := va_free (wc := (wM k aM Mestimate Munit Msort Mwidth Mmany Mreading Mvariance Mcovariance Mline Mformulas Mroot Mkind Mone Mother Msigns Mplace MleftOf MrightOf Mtype Msum Msign MsignAt Mproduct Mvalue Mslope Mexponent Mdrawn Mslopes Mfrom Mfactor Mthrown Mlength Mmodels Mopen Mat Mrows Mx)) hD hS hA [0, 1, 2, 3, 4, 5, 6, 7, 8, 9, 10, 11, 12, 13, 14, 15, 16, 17, 18, 19, 20, 21, 22, 23, 24, 25, 26, 27, 28, 29, 30] rfl
  refine xc_l (va_runV (As := [.long v1]) (rest := []) ⟨hx, hb, hml, hown, hts⟩ (met_X7_degreesSum l D k  aM H.size Mestimate Munit Msort Mwidth Mmany Mreading Mvariance Mcovariance Mline Mformulas Mroot Mkind Mone Mother Msigns Mplace MleftOf MrightOf Mtype Msum Msign MsignAt Mproduct Mvalue Mslope Mexponent Mdrawn Mslopes Mfrom Mfactor Mthrown Mlength Mmodels Mopen Mat Mrows Mx v1 r1 hc1) (cwV 1 hts gX7_hasNone_X7_degreesSum rfl rfl rfl (by decide +kernel) ⟨Nat.le_of_ble_eq_true rfl, Nat.le_of_ble_eq_true rfl⟩) ⟨pw_blind, va_recv hK hP (ci := 7) (q0 := 0) rfl rfl, pw_start hP hK hD⟩ rfl rfl hl.1 rfl (lv_room (Nat.le_of_ble_eq_true rfl)) dX7_hasNone_2 ⟨Nat.zero_le _, Nat.zero_le _⟩) hS hFc (fun H1 locs hP1 hD1 hk1 hS => ?_)
  obtain ⟨hP, hD⟩ := vj_all hFc hP1 hD1
  clear hP1 hD1 hk1 hFc
  generalize H1 = H at hP hS ⊢
  refine lv_lconst (v := 0) hx hb dX7_hasNone_5 (by decide) ?_
  refine W.lcmp hx hb dX7_hasNone_6 ?_
  refine lv_if_ne (tgt := 14) hx hb dX7_hasNone_7 (by decide) (fun c2 => ?_) (fun c2 => ?_)
  · replace h := sf_f c2 h
    refine lv_iconst (v := 0) hx hb dX7_hasNone_14 (by decide) ?_
    have hP9 := hP
    have hD9 := hD
    have hS9 := hS
    subst hQ
    cases h
    exact W.zret hx hb hr rfl (fun t ht hW => ⟨⟨_, (), rfl, rfl, by rw [ht]; exact hP9, va_K.moved hW.alike hK, hD9⟩, hS9.F ht⟩) hS9.2.2 dX7_hasNone_15
  · replace h := sf_t c2 h
    refine lv_iconst (v := 1) hx hb dX7_hasNone_10 (by decide) ?_
    refine lv_goto (tgt := 15) hx hb dX7_hasNone_11 (by decide) ?_
    have hP9 := hP
    have hD9 := hD
    have hS9 := hS
    subst hQ
    cases h
    exact W.zret hx hb hr rfl (fun t ht hW => ⟨⟨_, (), rfl, rfl, by rw [ht]; exact hP9, va_K.moved hW.alike hK, hD9⟩, hS9.F ht⟩) hS9.2.2 dX7_hasNone_15
def fX7_statedOf (v1 : Int64) (Msort : Nat → Int32) (Mmany : Nat → Int32) (Mvariance : Nat → Int32) (Mslopes : Nat → Int64) (Mfrom : Nat → Int32) (Mfactor : Nat → Int32) (Mrows : Int32) : Option (Int64) := bnd1 (fX7_root v1) (fun r1 => bnd1 (fX7_degrees v1 Msort Mmany Mvariance Mslopes) (fun r2 => bnd1 (fX7_hasNone v1 Msort Mmany Mvariance Mslopes) (fun r3 => bnd1 (fX7_factorFor r2 r3 Mfrom Mfactor Mrows) (fun r4 => (if (lg_cmp r1 ((-1))) = 0 then some ((-1)) else (if r4 = ((-1)) then some ((-1)) else some ((r1 * r4.toInt64) / 100)))))))
abbrev rmX7_statedOf : Room := { frames := 4, cells := 0, slots := 0, locals := 95 }
set_option maxHeartbeats 4000000 in
set_option maxRecDepth 100000 in
theorem met_X7_statedOf (l : Launch) (D : va_G) (k : Nat → ClassId)  (aM : Nat → Nat) (sz : Nat) (Mestimate : Nat → Int32) (Munit : Nat → Int32) (Msort : Nat → Int32) (Mwidth : Nat → Int32) (Mmany : Nat → Int32) (Mreading : Nat → Int32) (Mvariance : Nat → Int32) (Mcovariance : Nat → Int32) (Mline : Nat → Int32) (Mformulas : Nat → Int32) (Mroot : Nat → Int32) (Mkind : Nat → Int32) (Mone : Nat → Int32) (Mother : Nat → Int32) (Msigns : Nat → Int32) (Mplace : Nat → Int32) (MleftOf : Nat → Int32) (MrightOf : Nat → Int32) (Mtype : Nat → Int32) (Msum : Nat → Int32) (Msign : Nat → Int32) (MsignAt : Nat → Int32) (Mproduct : Nat → Int32) (Mvalue : Nat → Int64) (Mslope : Nat → Int64) (Mexponent : Nat → Int32) (Mdrawn : Nat → Int32) (Mslopes : Nat → Int64) (Mfrom : Nat → Int32) (Mfactor : Nat → Int32) (Mthrown : Int32) (Mlength : Int32) (Mmodels : Int32) (Mopen : Int32) (Mat : Int32) (Mrows : Int32) (Mx : Int32) (v1 : Int64) (r : Int64) (h : fX7_statedOf v1 Msort Mmany Mvariance Mslopes Mfrom Mfactor Mrows = some r) : Met l yX7_statedOf wsX7_statedOf rmX7_statedOf (va_Pc [.ref (aM 0), .long v1] (PreW D k (wM k aM Mestimate Munit Msort Mwidth Mmany Mreading Mvariance Mcovariance Mline Mformulas Mroot Mkind Mone Mother Msigns Mplace MleftOf MrightOf Mtype Msum Msign MsignAt Mproduct Mvalue Mslope Mexponent Mdrawn Mslopes Mfrom Mfactor Mthrown Mlength Mmodels Mopen Mat Mrows Mx) sz)) (va_Ql (fun r9 (_ : Unit) => r9 = r) (fun _ t => PostW D k (va_A (wM k aM Mestimate Munit Msort Mwidth Mmany Mreading Mvariance Mcovariance Mline Mformulas Mroot Mkind Mone Mother Msigns Mplace MleftOf MrightOf Mtype Msum Msign MsignAt Mproduct Mvalue Mslope Mexponent Mdrawn Mslopes Mfrom Mfactor Mthrown Mlength Mmodels Mopen Mat Mrows Mx) sz) (wM k aM Mestimate Munit Msort Mwidth Mmany Mreading Mvariance Mcovariance Mline Mformulas Mroot Mkind Mone Mother Msigns Mplace MleftOf MrightOf Mtype Msum Msign MsignAt Mproduct Mvalue Mslope Mexponent Mdrawn Mslopes Mfrom Mfactor Mthrown Mlength Mmodels Mopen Mat Mrows Mx) t) (va_A (wM k aM Mestimate Munit Msort Mwidth Mmany Mreading Mvariance Mcovariance Mline Mformulas Mroot Mkind Mone Mother Msigns Mplace MleftOf MrightOf Mtype Msum Msign MsignAt Mproduct Mvalue Mslope Mexponent Mdrawn Mslopes Mfrom Mfactor Mthrown Mlength Mmodels Mopen Mat Mrows Mx) sz)) 0 0 (va_A (wM k aM Mestimate Munit Msort Mwidth Mmany Mreading Mvariance Mcovariance Mline Mformulas Mroot Mkind Mone Mother Msigns Mplace MleftOf MrightOf Mtype Msum Msign MsignAt Mproduct Mvalue Mslope Mexponent Mdrawn Mslopes Mfrom Mfactor Mthrown Mlength Mmodels Mopen Mat Mrows Mx) sz) := by
  refine Met.ofW (cc := cX7_statedOf) (maxL := 6) (ret := (some .long)) (by decide) rfl ?_
  intro p e s m args below meth c s₁ B hml hv
  obtain ⟨hav, hsz, hP, hK, hD0⟩ := hv
  have hx := B.exec
  have hb := B.bytes
  have hr := B.returns
  have hts := atoms_spec (ws := wsX7_statedOf) B.pre
  have hown : s.vm.findClass RX7 = some m.cls := findClass_of_methodNamed B.named
  have hlocks := B.notSynchronized
  subst hsz
  have hD := hD0.self (sz := s.heap.size)
  clear hD0
  generalize hAe : va_A (wM k aM Mestimate Munit Msort Mwidth Mmany Mreading Mvariance Mcovariance Mline Mformulas Mroot Mkind Mone Mother Msigns Mplace MleftOf MrightOf Mtype Msum Msign MsignAt Mproduct Mvalue Mslope Mexponent Mdrawn Mslopes Mfrom Mfactor Mthrown Mlength Mmodels Mopen Mat Mrows Mx) s.heap.size = A at hD ⊢
  have hA : ∀ q : Nat, s.heap.size ≤ q → A q := fun q h => by rw [← hAe]; exact Or.inr h
  have hS : va_S A s.heap s.heap [] := va_S.rf
  have hl := lv_entry ([.ref (aM 0), .long v1]) (n := 6) (Nat.le_of_ble_eq_true rfl)
  rw [show entryFrame m args 6 = entryFrame m ([.ref (aM 0), .long v1] : List Value).toArray 6 from by rw [hav], lg_entry_eq]
  generalize (lg_sl ([.ref (aM 0), .long v1]) ++ List.replicate (6 - (lg_sl ([.ref (aM 0), .long v1])).length) Slot.unset).toArray = ls at hl ⊢
  replace hl : lv_has ls 6 [(0, .ref (aM 0)), (1, .long v1)] := hl
  have kc208 := hts (.constantLong RX7 208 (-1)) (by decide +kernel)
  have kc210 := hts (.constantLong RX7 210 (100)) (by decide +kernel)
  refine w_q (fun Q hQ => ?_)
  unfold fX7_statedOf at h
  show W p l e rmX7_statedOf s m args below meth c s.heap [] 0 0 Q (F0 m 0 ls [])
  suffices main : ∀ (H : Heap) (locs : List Loc) (ls : Array Slot), va_P D vwCl (wM k aM Mestimate Munit Msort Mwidth Mmany Mreading Mvariance Mcovariance Mline Mformulas Mroot Mkind Mone Mother Msigns Mplace MleftOf MrightOf Mtype Msum Msign MsignAt Mproduct Mvalue Mslope Mexponent Mdrawn Mslopes Mfrom Mfactor Mthrown Mlength Mmodels Mopen Mat Mrows Mx) H → va_D A (wM k aM Mestimate Munit Msort Mwidth Mmany Mreading Mvariance Mcovariance Mline Mformulas Mroot Mkind Mone Mother Msigns Mplace MleftOf MrightOf Mtype Msum Msign MsignAt Mproduct Mvalue Mslope Mexponent Mdrawn Mslopes Mfrom Mfactor Mthrown Mlength Mmodels Mopen Mat Mrows Mx) → va_S A s.heap H locs → lv_has ls 6 [(0, .ref (aM 0)), (1, .long v1)] → W p l e rmX7_statedOf s m args below meth c H locs 0 0 Q (F0 m 0 ls []) from main _ _ _ hP hD hS hl
  clear hP hD hS hl ls hAe
  intro H locs ls hP hD hS hl
  refine lv_lload_n hx hb dX7_statedOf_0 rfl (lv_at hl 1 rfl) ?_
  obtain ⟨r1, hc1, h⟩ := bnd1_inv h
  have hPc := hP.sub (ws' := ([] : va_W)) [] rfl
  have hDc := hD.sub (ws' := ([] : va_W)) [] rfl rfl
  have hFc := va_free (wc := ([] : va_W)) hD hS hA [] rfl
  refine xc_l (va_runS (As := [.long v1]) (rest := []) ⟨hx, hb, hml, hown, hts⟩ (met_X7_root l D k  H.size v1 r1 hc1) (va_cwS 1 hts gX7_statedOf_X7_root rfl rfl rfl (by decide +kernel) ⟨Nat.le_of_ble_eq_true rfl, Nat.le_of_ble_eq_true rfl⟩) ⟨pw_blind, pw_start hPc hK hDc⟩ rfl rfl hl.1 rfl (lv_room (Nat.le_of_ble_eq_true rfl)) dX7_statedOf_1 ⟨Nat.zero_le _, Nat.zero_le _⟩) hS hFc (fun H1 locs hP1 hD1 hk1 hS => ?_)
  obtain ⟨hP, hD⟩ := vj (ws' := (wM k aM Mestimate Munit Msort Mwidth Mmany Mreading Mvariance Mcovariance Mline Mformulas Mroot Mkind Mone Mother Msigns Mplace MleftOf MrightOf Mtype Msum Msign MsignAt Mproduct Mvalue Mslope Mexponent Mdrawn Mslopes Mfrom Mfactor Mthrown Mlength Mmodels Mopen Mat Mrows Mx)) (w1 := ([] : va_W)) hP hD [] [0, 1, 2, 3, 4, 5, 6, 7, 8, 9, 10, 11, 12, 13, 14, 15, 16, 17, 18, 19, 20, 21, 22, 23, 24, 25, 26, 27, 28, 29, 30] [0, 1, 2, 3, 4, 5, 6, 7, 8, 9, 10, 11, 12, 13, 14, 15, 16, 17, 18, 19, 20, 21, 22, 23, 24, 25, 26, 27, 28, 29, 30] rfl rfl rfl rfl rfl hk1 hFc hP1 hD1
  clear hP1 hD1 hk1 hFc
  generalize H1 = H at hP hS ⊢
  refine lv_lstore_n (lv' := [(3, .long r1), (0, .ref (aM 0)), (1, .long v1)]) hx hb dX7_statedOf_4 rfl hl (by decide) rfl (fun ls hl => ?_)
  refine lv_aload_n hx hb dX7_statedOf_5 rfl (lv_at hl 1 rfl) ?_
  refine lv_aload_n hx hb dX7_statedOf_6 rfl (lv_at hl 1 rfl) ?_
  refine lv_lload_n hx hb dX7_statedOf_7 rfl (lv_at hl 2 rfl) ?_
  obtain ⟨r2, hc2, h⟩ := bnd1_inv h
  have hFc := va_free (wc := (wM k aM Mestimate Munit Msort Mwidth Mmany Mreading Mvariance Mcovariance Mline Mformulas Mroot Mkind Mone Mother Msigns Mplace MleftOf MrightOf Mtype Msum Msign MsignAt Mproduct Mvalue Mslope Mexponent Mdrawn Mslopes Mfrom Mfactor Mthrown Mlength Mmodels Mopen Mat Mrows Mx)) hD hS hA [0, 1, 2, 3, 4, 5, 6, 7, 8, 9, 10, 11, 12, 13, 14, 15, 16, 17, 18, 19, 20, 21, 22, 23, 24, 25, 26, 27, 28, 29, 30] rfl
  refine xc_l (va_runV (As := [.long v1]) (rest := [.ref (aM 0)]) ⟨hx, hb, hml, hown, hts⟩ (met_X7_degrees l D k  aM H.size Mestimate Munit Msort Mwidth Mmany Mreading Mvariance Mcovariance Mline Mformulas Mroot Mkind Mone Mother Msigns Mplace MleftOf MrightOf Mtype Msum Msign MsignAt Mproduct Mvalue Mslope Mexponent Mdrawn Mslopes Mfrom Mfactor Mthrown Mlength Mmodels Mopen Mat Mrows Mx v1 r2 hc2) (cwV 1 hts gX7_statedOf_X7_degrees rfl rfl rfl (by decide +kernel) ⟨Nat.le_of_ble_eq_true rfl, Nat.le_of_ble_eq_true rfl⟩) ⟨pw_blind, va_recv hK hP (ci := 7) (q0 := 0) rfl rfl, pw_start hP hK hD⟩ rfl rfl hl.1 rfl (lv_room (Nat.le_of_ble_eq_true rfl)) dX7_statedOf_8 ⟨Nat.zero_le _, Nat.zero_le _⟩) hS hFc (fun H1 locs hP1 hD1 hk1 hS => ?_)
  obtain ⟨hP, hD⟩ := vj_all hFc hP1 hD1
  clear hP1 hD1 hk1 hFc
  generalize H1 = H at hP hS ⊢
  refine lv_aload_n hx hb dX7_statedOf_11 rfl (lv_at hl 1 rfl) ?_
  refine lv_lload_n hx hb dX7_statedOf_12 rfl (lv_at hl 2 rfl) ?_
  obtain ⟨r3, hc3, h⟩ := bnd1_inv h
  have hFc := va_free (wc := (wM k aM Mestimate Munit Msort Mwidth Mmany Mreading Mvariance Mcovariance Mline Mformulas Mroot Mkind Mone Mother Msigns Mplace MleftOf MrightOf Mtype Msum Msign MsignAt Mproduct Mvalue Mslope Mexponent Mdrawn Mslopes Mfrom Mfactor Mthrown Mlength Mmodels Mopen Mat Mrows Mx)) hD hS hA [0, 1, 2, 3, 4, 5, 6, 7, 8, 9, 10, 11, 12, 13, 14, 15, 16, 17, 18, 19, 20, 21, 22, 23, 24, 25, 26, 27, 28, 29, 30] rfl
  refine xc_i (va_runV (As := [.long v1]) (rest := [.long r2, .ref (aM 0)]) ⟨hx, hb, hml, hown, hts⟩ (met_X7_hasNone l D k  aM H.size Mestimate Munit Msort Mwidth Mmany Mreading Mvariance Mcovariance Mline Mformulas Mroot Mkind Mone Mother Msigns Mplace MleftOf MrightOf Mtype Msum Msign MsignAt Mproduct Mvalue Mslope Mexponent Mdrawn Mslopes Mfrom Mfactor Mthrown Mlength Mmodels Mopen Mat Mrows Mx v1 r3 hc3) (cwV 1 hts gX7_statedOf_X7_hasNone rfl rfl rfl (by decide +kernel) ⟨Nat.le_of_ble_eq_true rfl, Nat.le_of_ble_eq_true rfl⟩) ⟨pw_blind, va_recv hK hP (ci := 7) (q0 := 0) rfl rfl, pw_start hP hK hD⟩ rfl rfl hl.1 rfl (lv_room (Nat.le_of_ble_eq_true rfl)) dX7_statedOf_13 ⟨Nat.zero_le _, Nat.zero_le _⟩) hS hFc (fun H1 locs hP1 hD1 hk1 hS => ?_)
  obtain ⟨hP, hD⟩ := vj_all hFc hP1 hD1
  clear hP1 hD1 hk1 hFc
  generalize H1 = H at hP hS ⊢
  obtain ⟨r4, hc4, h⟩ := bnd1_inv h
  have hFc := va_free (wc := (wM k aM Mestimate Munit Msort Mwidth Mmany Mreading Mvariance Mcovariance Mline Mformulas Mroot Mkind Mone Mother Msigns Mplace MleftOf MrightOf Mtype Msum Msign MsignAt Mproduct Mvalue Mslope Mexponent Mdrawn Mslopes Mfrom Mfactor Mthrown Mlength Mmodels Mopen Mat Mrows Mx)) hD hS hA [0, 1, 2, 3, 4, 5, 6, 7, 8, 9, 10, 11, 12, 13, 14, 15, 16, 17, 18, 19, 20, 21, 22, 23, 24, 25, 26, 27, 28, 29, 30] rfl
  refine xc_i (va_runV (As := [.long r2, .int r3]) (rest := []) ⟨hx, hb, hml, hown, hts⟩ (met_X7_factorFor l D k  aM H.size Mestimate Munit Msort Mwidth Mmany Mreading Mvariance Mcovariance Mline Mformulas Mroot Mkind Mone Mother Msigns Mplace MleftOf MrightOf Mtype Msum Msign MsignAt Mproduct Mvalue Mslope Mexponent Mdrawn Mslopes Mfrom Mfactor Mthrown Mlength Mmodels Mopen Mat Mrows Mx r2 r3 r4 hc4) (cwV 2 hts gX7_statedOf_X7_factorFor rfl rfl rfl (by decide +kernel) ⟨Nat.le_of_ble_eq_true rfl, Nat.le_of_ble_eq_true rfl⟩) ⟨pw_blind, va_recv hK hP (ci := 7) (q0 := 0) rfl rfl, pw_start hP hK hD⟩ rfl rfl hl.1 rfl (lv_room (Nat.le_of_ble_eq_true rfl)) dX7_statedOf_16 ⟨Nat.zero_le _, Nat.zero_le _⟩) hS hFc (fun H1 locs hP1 hD1 hk1 hS => ?_)
  obtain ⟨hP, hD⟩ := vj_all hFc hP1 hD1
  clear hP1 hD1 hk1 hFc
  generalize H1 = H at hP hS ⊢
  refine lv_istore (lv' := [(5, .int r4), (3, .long r1), (0, .ref (aM 0)), (1, .long v1)]) hx hb dX7_statedOf_19 hl (by decide) rfl (fun ls hl => ?_)
  refine lv_lload_n hx hb dX7_statedOf_21 rfl (lv_at hl 1 rfl) ?_
  refine lv_ldc2 (v := -1) hx hb hown kc208 dX7_statedOf_22 ?_
  refine W.lcmp hx hb dX7_statedOf_25 ?_
  refine lv_if_eq (tgt := 35) hx hb dX7_statedOf_26 (by decide) (fun c5 => ?_) (fun c5 => ?_)
  · replace h := sf_t c5 h
    refine lv_ldc2 (v := -1) hx hb hown kc208 dX7_statedOf_35 ?_
    refine lv_goto (tgt := 50) hx hb dX7_statedOf_38 (by decide) ?_
    have hP9 := hP
    have hD9 := hD
    have hS9 := hS
    subst hQ
    cases h
    exact W.lret hx hb hr (fun t ht hW => ⟨⟨_, (), rfl, rfl, by rw [ht]; exact hP9, va_K.moved hW.alike hK, hD9⟩, hS9.F ht⟩) hS9.2.2 dX7_statedOf_50
  · replace h := sf_f c5 h
    refine lv_iload hx hb dX7_statedOf_29 (lv_at hl 0 rfl) ?_
    refine lv_iconst (v := -1) hx hb dX7_statedOf_31 (by decide) ?_
    refine lv_icmp_ne (tgt := 41) hx hb dX7_statedOf_32 (by decide) (fun c6 => ?_) (fun c6 => ?_)
    · replace h := sf_f c6 h
      refine lv_lload_n hx hb dX7_statedOf_41 rfl (lv_at hl 1 rfl) ?_
      refine lv_iload hx hb dX7_statedOf_42 (lv_at hl 0 rfl) ?_
      refine lv_i2l hx hb dX7_statedOf_44 rfl ?_
      refine lv_lmul hx hb dX7_statedOf_45 ?_
      refine lv_ldc2 (v := 100) hx hb hown kc210 dX7_statedOf_46 ?_
      refine lv_ldiv hx hb dX7_statedOf_49 (by decide) ?_
      have hP9 := hP
      have hD9 := hD
      have hS9 := hS
      subst hQ
      cases h
      exact W.lret hx hb hr (fun t ht hW => ⟨⟨_, (), rfl, rfl, by rw [ht]; exact hP9, va_K.moved hW.alike hK, hD9⟩, hS9.F ht⟩) hS9.2.2 dX7_statedOf_50
    · replace h := sf_t c6 h
      refine lv_ldc2 (v := -1) hx hb hown kc208 dX7_statedOf_35 ?_
      refine lv_goto (tgt := 50) hx hb dX7_statedOf_38 (by decide) ?_
      have hP9 := hP
      have hD9 := hD
      have hS9 := hS
      subst hQ
      cases h
      exact W.lret hx hb hr (fun t ht hW => ⟨⟨_, (), rfl, rfl, by rw [ht]; exact hP9, va_K.moved hW.alike hK, hD9⟩, hS9.F ht⟩) hS9.2.2 dX7_statedOf_50
def BX7_budget_27 (Mestimate : Nat → Int32) (Msort : Nat → Int32) (Mmany : Nat → Int32) (Mvariance : Nat → Int32) (Mcovariance : Nat → Int32) (Mformulas : Nat → Int32) (Mroot : Nat → Int32) (Mkind : Nat → Int32) (Mone : Nat → Int32) (Mother : Nat → Int32) (Mdrawn : Nat → Int32) (Mfrom : Nat → Int32) (Mfactor : Nat → Int32) (Mmodels : Int32) (Mrows : Int32) (v1 : Int32) (v2 : Int32)  (s1 : Int32) (Mvalue : Nat → Int64) (Mslope : Nat → Int64) (Mslopes : Nat → Int64) (Mthrown : Int32) : Option (Int64 × (Nat → Int64) × (Nat → Int64) × (Nat → Int64) × Int32) := bnd2 (fX7_holds s1 Mthrown) (fun r5 thrown_5 => (if r5 = 0 then some (0, Mvalue, Mslope, Mslopes, thrown_5) else bnd3 (fX7_laysSlopes v1 Mestimate Mformulas Mroot Mkind Mone Mother Mvalue Mslope Mdrawn Mslopes) (fun value_7 slope_7 slopes_7 => bnd1 (fX7_varianceOf Mvariance Mcovariance slopes_7) (fun r8 => (if 2 ≤ v2 then (if v2 = 2 then bnd1 (fX7_degrees r8 Msort Mmany Mvariance slopes_7) (fun r16 => some (r16, value_7, slope_7, slopes_7, thrown_5)) else (if v2 = 3 then bnd1 (fX7_degrees r8 Msort Mmany Mvariance slopes_7) (fun r13 => bnd1 (fX7_hasNone r8 Msort Mmany Mvariance slopes_7) (fun r14 => bnd1 (fX7_factorFor r13 r14 Mfrom Mfactor Mrows) (fun r15 => some (r15.toInt64, value_7, slope_7, slopes_7, thrown_5)))) else bnd1 (fX7_statedOf r8 Msort Mmany Mvariance slopes_7 Mfrom Mfactor Mrows) (fun r12 => some (r12, value_7, slope_7, slopes_7, thrown_5)))) else (if v2 = 0 then some (r8, value_7, slope_7, slopes_7, thrown_5) else bnd1 (fX7_root r8) (fun r18 => some (r18, value_7, slope_7, slopes_7, thrown_5))))))))
def fX7_budget (v1 : Int32) (v2 : Int32) (Mestimate : Nat → Int32) (Msort : Nat → Int32) (Mmany : Nat → Int32) (Mvariance : Nat → Int32) (Mcovariance : Nat → Int32) (Mformulas : Nat → Int32) (Mroot : Nat → Int32) (Mkind : Nat → Int32) (Mone : Nat → Int32) (Mother : Nat → Int32) (Mvalue : Nat → Int64) (Mslope : Nat → Int64) (Mdrawn : Nat → Int32) (Mslopes : Nat → Int64) (Mfrom : Nat → Int32) (Mfactor : Nat → Int32) (Mthrown : Int32) (Mmodels : Int32) (Mrows : Int32) : Option (Int64 × (Nat → Int64) × (Nat → Int64) × (Nat → Int64) × Int32) := bnd1 (fX7_isModel v1 Mmodels) (fun r1 => (if r1 = 0 then BX7_budget_27 Mestimate Msort Mmany Mvariance Mcovariance Mformulas Mroot Mkind Mone Mother Mdrawn Mfrom Mfactor Mmodels Mrows v1 v2 1 Mvalue Mslope Mslopes Mthrown else bnd1 (fX7_isIn v2 0 4) (fun r3 => (if r3 = 0 then BX7_budget_27 Mestimate Msort Mmany Mvariance Mcovariance Mformulas Mroot Mkind Mone Mother Mdrawn Mfrom Mfactor Mmodels Mrows v1 v2 2 Mvalue Mslope Mslopes Mthrown else BX7_budget_27 Mestimate Msort Mmany Mvariance Mcovariance Mformulas Mroot Mkind Mone Mother Mdrawn Mfrom Mfactor Mmodels Mrows v1 v2 0 Mvalue Mslope Mslopes Mthrown))))
abbrev rmX7_budget : Room := { frames := 5, cells := 0, slots := 0, locals := 120 }
set_option maxHeartbeats 4000000 in
set_option maxRecDepth 100000 in
theorem met_X7_budget (l : Launch) (D : va_G) (k : Nat → ClassId)  (aM : Nat → Nat) (sz : Nat) (Mestimate : Nat → Int32) (Munit : Nat → Int32) (Msort : Nat → Int32) (Mwidth : Nat → Int32) (Mmany : Nat → Int32) (Mreading : Nat → Int32) (Mvariance : Nat → Int32) (Mcovariance : Nat → Int32) (Mline : Nat → Int32) (Mformulas : Nat → Int32) (Mroot : Nat → Int32) (Mkind : Nat → Int32) (Mone : Nat → Int32) (Mother : Nat → Int32) (Msigns : Nat → Int32) (Mplace : Nat → Int32) (MleftOf : Nat → Int32) (MrightOf : Nat → Int32) (Mtype : Nat → Int32) (Msum : Nat → Int32) (Msign : Nat → Int32) (MsignAt : Nat → Int32) (Mproduct : Nat → Int32) (Mvalue : Nat → Int64) (Mslope : Nat → Int64) (Mexponent : Nat → Int32) (Mdrawn : Nat → Int32) (Mslopes : Nat → Int64) (Mfrom : Nat → Int32) (Mfactor : Nat → Int32) (Mthrown : Int32) (Mlength : Int32) (Mmodels : Int32) (Mopen : Int32) (Mat : Int32) (Mrows : Int32) (Mx : Int32) (v1 : Int32) (v2 : Int32) (r : Int64) (RMvalue : Nat → Int64) (RMslope : Nat → Int64) (RMslopes : Nat → Int64) (RMthrown : Int32) (h : fX7_budget v1 v2 Mestimate Msort Mmany Mvariance Mcovariance Mformulas Mroot Mkind Mone Mother Mvalue Mslope Mdrawn Mslopes Mfrom Mfactor Mthrown Mmodels Mrows = some (r, RMvalue, RMslope, RMslopes, RMthrown)) : Met l yX7_budget wsX7_budget rmX7_budget (va_Pc [.ref (aM 0), .int v1, .int v2] (PreW D k (wM k aM Mestimate Munit Msort Mwidth Mmany Mreading Mvariance Mcovariance Mline Mformulas Mroot Mkind Mone Mother Msigns Mplace MleftOf MrightOf Mtype Msum Msign MsignAt Mproduct Mvalue Mslope Mexponent Mdrawn Mslopes Mfrom Mfactor Mthrown Mlength Mmodels Mopen Mat Mrows Mx) sz)) (va_Ql (fun r9 (_ : Unit) => r9 = r) (fun _ t => PostW D k (va_A (wM k aM Mestimate Munit Msort Mwidth Mmany Mreading Mvariance Mcovariance Mline Mformulas Mroot Mkind Mone Mother Msigns Mplace MleftOf MrightOf Mtype Msum Msign MsignAt Mproduct Mvalue Mslope Mexponent Mdrawn Mslopes Mfrom Mfactor Mthrown Mlength Mmodels Mopen Mat Mrows Mx) sz) (wM k aM Mestimate Munit Msort Mwidth Mmany Mreading Mvariance Mcovariance Mline Mformulas Mroot Mkind Mone Mother Msigns Mplace MleftOf MrightOf Mtype Msum Msign MsignAt Mproduct RMvalue RMslope Mexponent Mdrawn RMslopes Mfrom Mfactor RMthrown Mlength Mmodels Mopen Mat Mrows Mx) t) (va_A (wM k aM Mestimate Munit Msort Mwidth Mmany Mreading Mvariance Mcovariance Mline Mformulas Mroot Mkind Mone Mother Msigns Mplace MleftOf MrightOf Mtype Msum Msign MsignAt Mproduct Mvalue Mslope Mexponent Mdrawn Mslopes Mfrom Mfactor Mthrown Mlength Mmodels Mopen Mat Mrows Mx) sz)) 0 0 (va_A (wM k aM Mestimate Munit Msort Mwidth Mmany Mreading Mvariance Mcovariance Mline Mformulas Mroot Mkind Mone Mother Msigns Mplace MleftOf MrightOf Mtype Msum Msign MsignAt Mproduct Mvalue Mslope Mexponent Mdrawn Mslopes Mfrom Mfactor Mthrown Mlength Mmodels Mopen Mat Mrows Mx) sz) := by
  refine Met.ofW (cc := cX7_budget) (maxL := 5) (ret := (some .long)) (by decide) rfl ?_
  intro p e s m args below meth c s₁ B hml hv
  obtain ⟨hav, hsz, hP, hK, hD0⟩ := hv
  have hx := B.exec
  have hb := B.bytes
  have hr := B.returns
  have hts := atoms_spec (ws := wsX7_budget) B.pre
  have hown : s.vm.findClass RX7 = some m.cls := findClass_of_methodNamed B.named
  have hlocks := B.notSynchronized
  subst hsz
  have hD := hD0.self (sz := s.heap.size)
  clear hD0
  generalize hAe : va_A (wM k aM Mestimate Munit Msort Mwidth Mmany Mreading Mvariance Mcovariance Mline Mformulas Mroot Mkind Mone Mother Msigns Mplace MleftOf MrightOf Mtype Msum Msign MsignAt Mproduct Mvalue Mslope Mexponent Mdrawn Mslopes Mfrom Mfactor Mthrown Mlength Mmodels Mopen Mat Mrows Mx) s.heap.size = A at hD ⊢
  have hA : ∀ q : Nat, s.heap.size ≤ q → A q := fun q h => by rw [← hAe]; exact Or.inr h
  have hS : va_S A s.heap s.heap [] := va_S.rf
  have hl := lv_entry ([.ref (aM 0), .int v1, .int v2]) (n := 5) (Nat.le_of_ble_eq_true rfl)
  rw [show entryFrame m args 5 = entryFrame m ([.ref (aM 0), .int v1, .int v2] : List Value).toArray 5 from by rw [hav], lg_entry_eq]
  generalize (lg_sl ([.ref (aM 0), .int v1, .int v2]) ++ List.replicate (5 - (lg_sl ([.ref (aM 0), .int v1, .int v2])).length) Slot.unset).toArray = ls at hl ⊢
  replace hl : lv_has ls 5 [(0, .ref (aM 0)), (1, .int v1), (2, .int v2)] := hl
  refine w_q (fun Q hQ => ?_)
  unfold fX7_budget at h
  show W p l e rmX7_budget s m args below meth c s.heap [] 0 0 Q (F0 m 0 ls [])
  have BH_27 : ∀ (s1 : Int32) (Mvalue : Nat → Int64) (Mslope : Nat → Int64) (Mslopes : Nat → Int64) (Mthrown : Int32), BX7_budget_27 Mestimate Msort Mmany Mvariance Mcovariance Mformulas Mroot Mkind Mone Mother Mdrawn Mfrom Mfactor Mmodels Mrows v1 v2 s1 Mvalue Mslope Mslopes Mthrown = some (r, RMvalue, RMslope, RMslopes, RMthrown) → ∀ (H : Heap) (locs : List Loc) (ls : Array Slot), va_P D vwCl (wM k aM Mestimate Munit Msort Mwidth Mmany Mreading Mvariance Mcovariance Mline Mformulas Mroot Mkind Mone Mother Msigns Mplace MleftOf MrightOf Mtype Msum Msign MsignAt Mproduct Mvalue Mslope Mexponent Mdrawn Mslopes Mfrom Mfactor Mthrown Mlength Mmodels Mopen Mat Mrows Mx) H → va_D A (wM k aM Mestimate Munit Msort Mwidth Mmany Mreading Mvariance Mcovariance Mline Mformulas Mroot Mkind Mone Mother Msigns Mplace MleftOf MrightOf Mtype Msum Msign MsignAt Mproduct Mvalue Mslope Mexponent Mdrawn Mslopes Mfrom Mfactor Mthrown Mlength Mmodels Mopen Mat Mrows Mx) → va_S A s.heap H locs → lv_has ls 5 [(0, .ref (aM 0)), (1, .int v1), (2, .int v2)] → W p l e rmX7_budget s m args below meth c H locs 0 0 Q (F0 m 27 ls [.int s1, .ref (aM 0)]) := by
    intro  s1 Mvalue Mslope Mslopes Mthrown h H locs ls hP hD hS hl
    unfold BX7_budget_27 at h
    obtain ⟨r5, thrown_5, hc5, h⟩ := bnd2_inv h
    have hFc := va_free (wc := (wM k aM Mestimate Munit Msort Mwidth Mmany Mreading Mvariance Mcovariance Mline Mformulas Mroot Mkind Mone Mother Msigns Mplace MleftOf MrightOf Mtype Msum Msign MsignAt Mproduct Mvalue Mslope Mexponent Mdrawn Mslopes Mfrom Mfactor Mthrown Mlength Mmodels Mopen Mat Mrows Mx)) hD hS hA [0, 1, 2, 3, 4, 5, 6, 7, 8, 9, 10, 11, 12, 13, 14, 15, 16, 17, 18, 19, 20, 21, 22, 23, 24, 25, 26, 27, 28, 29, 30] rfl
    refine xc_i (va_runV (As := [.int s1]) (rest := []) ⟨hx, hb, hml, hown, hts⟩ (met_X7_holds l D k  aM H.size Mestimate Munit Msort Mwidth Mmany Mreading Mvariance Mcovariance Mline Mformulas Mroot Mkind Mone Mother Msigns Mplace MleftOf MrightOf Mtype Msum Msign MsignAt Mproduct Mvalue Mslope Mexponent Mdrawn Mslopes Mfrom Mfactor Mthrown Mlength Mmodels Mopen Mat Mrows Mx s1 r5 thrown_5 hc5) (cwV 1 hts gX7_budget_X7_holds rfl rfl rfl (by decide +kernel) ⟨Nat.le_of_ble_eq_true rfl, Nat.le_of_ble_eq_true rfl⟩) ⟨pw_blind, va_recv hK hP (ci := 7) (q0 := 0) rfl rfl, pw_start hP hK hD⟩ rfl rfl hl.1 rfl (lv_room (Nat.le_of_ble_eq_true rfl)) dX7_budget_27 ⟨Nat.zero_le _, Nat.zero_le _⟩) hS hFc (fun H1 locs hP1 hD1 hk1 hS => ?_)
    obtain ⟨hP, hD⟩ := vj_all hFc hP1 hD1
    clear hP1 hD1 hk1 hFc
    generalize H1 = H at hP hS ⊢
    refine lv_if_ne (tgt := 35) hx hb dX7_budget_30 (by decide) (fun c6 => ?_) (fun c6 => ?_)
    · replace h := sf_f c6 h
      refine lv_aload_n hx hb dX7_budget_35 rfl (lv_at hl 0 rfl) ?_
      refine lv_iload_n hx hb dX7_budget_36 rfl (lv_at hl 1 rfl) ?_
      obtain ⟨value_7, slope_7, slopes_7, hc7, h⟩ := bnd3_inv h
      have hFc := va_free (wc := (wM k aM Mestimate Munit Msort Mwidth Mmany Mreading Mvariance Mcovariance Mline Mformulas Mroot Mkind Mone Mother Msigns Mplace MleftOf MrightOf Mtype Msum Msign MsignAt Mproduct Mvalue Mslope Mexponent Mdrawn Mslopes Mfrom Mfactor thrown_5 Mlength Mmodels Mopen Mat Mrows Mx)) hD hS hA [0, 1, 2, 3, 4, 5, 6, 7, 8, 9, 10, 11, 12, 13, 14, 15, 16, 17, 18, 19, 20, 21, 22, 23, 24, 25, 26, 27, 28, 29, 30] rfl
      refine xc_v (va_runV (As := [.int v1]) (rest := []) ⟨hx, hb, hml, hown, hts⟩ (met_X7_laysSlopes l D k  aM H.size Mestimate Munit Msort Mwidth Mmany Mreading Mvariance Mcovariance Mline Mformulas Mroot Mkind Mone Mother Msigns Mplace MleftOf MrightOf Mtype Msum Msign MsignAt Mproduct Mvalue Mslope Mexponent Mdrawn Mslopes Mfrom Mfactor thrown_5 Mlength Mmodels Mopen Mat Mrows Mx v1 value_7 slope_7 slopes_7 hc7) (cwV 1 hts gX7_budget_X7_laysSlopes rfl rfl rfl (by decide +kernel) ⟨Nat.le_of_ble_eq_true rfl, Nat.le_of_ble_eq_true rfl⟩) ⟨pw_blind, va_recv hK hP (ci := 7) (q0 := 0) rfl rfl, pw_start hP hK hD⟩ rfl rfl hl.1 rfl (lv_room (Nat.le_of_ble_eq_true rfl)) dX7_budget_37 ⟨Nat.zero_le _, Nat.zero_le _⟩) hS hFc (fun H1 locs hP1 hD1 hk1 hS => ?_)
      obtain ⟨hP, hD⟩ := vj_all hFc hP1 hD1
      clear hP1 hD1 hk1 hFc
      generalize H1 = H at hP hS ⊢
      refine lv_aload_n hx hb dX7_budget_40 rfl (lv_at hl 0 rfl) ?_
      obtain ⟨r8, hc8, h⟩ := bnd1_inv h
      have hFc := va_free (wc := (wM k aM Mestimate Munit Msort Mwidth Mmany Mreading Mvariance Mcovariance Mline Mformulas Mroot Mkind Mone Mother Msigns Mplace MleftOf MrightOf Mtype Msum Msign MsignAt Mproduct value_7 slope_7 Mexponent Mdrawn slopes_7 Mfrom Mfactor thrown_5 Mlength Mmodels Mopen Mat Mrows Mx)) hD hS hA [0, 1, 2, 3, 4, 5, 6, 7, 8, 9, 10, 11, 12, 13, 14, 15, 16, 17, 18, 19, 20, 21, 22, 23, 24, 25, 26, 27, 28, 29, 30] rfl
      refine xc_l (va_runV (As := []) (rest := []) ⟨hx, hb, hml, hown, hts⟩ (met_X7_varianceOf l D k  aM H.size Mestimate Munit Msort Mwidth Mmany Mreading Mvariance Mcovariance Mline Mformulas Mroot Mkind Mone Mother Msigns Mplace MleftOf MrightOf Mtype Msum Msign MsignAt Mproduct value_7 slope_7 Mexponent Mdrawn slopes_7 Mfrom Mfactor thrown_5 Mlength Mmodels Mopen Mat Mrows Mx r8 hc8) (cwV 0 hts gX7_budget_X7_varianceOf rfl rfl rfl (by decide +kernel) ⟨Nat.le_of_ble_eq_true rfl, Nat.le_of_ble_eq_true rfl⟩) ⟨pw_blind, va_recv hK hP (ci := 7) (q0 := 0) rfl rfl, pw_start hP hK hD⟩ rfl rfl hl.1 rfl (lv_room (Nat.le_of_ble_eq_true rfl)) dX7_budget_41 ⟨Nat.zero_le _, Nat.zero_le _⟩) hS hFc (fun H1 locs hP1 hD1 hk1 hS => ?_)
      obtain ⟨hP, hD⟩ := vj_all hFc hP1 hD1
      clear hP1 hD1 hk1 hFc
      generalize H1 = H at hP hS ⊢
      refine lv_lstore_n (lv' := [(3, .long r8), (0, .ref (aM 0)), (1, .int v1), (2, .int v2)]) hx hb dX7_budget_44 rfl hl (by decide) rfl (fun ls hl => ?_)
      refine lv_iload_n hx hb dX7_budget_45 rfl (lv_at hl 3 rfl) ?_
      refine lv_iconst (v := 2) hx hb dX7_budget_46 (by decide) ?_
      refine lv_icmp_ge (tgt := 63) hx hb dX7_budget_47 (by decide) (fun c9 => ?_) (fun c9 => ?_)
      · replace h := sf_t c9 h
        refine lv_iload_n hx hb dX7_budget_63 rfl (lv_at hl 3 rfl) ?_
        refine lv_iconst (v := 2) hx hb dX7_budget_64 (by decide) ?_
        refine lv_icmp_ne (tgt := 76) hx hb dX7_budget_65 (by decide) (fun c10 => ?_) (fun c10 => ?_)
        · replace h := sf_f c10 h
          refine lv_iload_n hx hb dX7_budget_76 rfl (lv_at hl 3 rfl) ?_
          refine lv_iconst (v := 3) hx hb dX7_budget_77 (by decide) ?_
          refine lv_icmp_ne (tgt := 99) hx hb dX7_budget_78 (by decide) (fun c11 => ?_) (fun c11 => ?_)
          · replace h := sf_f c11 h
            refine lv_aload_n hx hb dX7_budget_99 rfl (lv_at hl 1 rfl) ?_
            refine lv_lload_n hx hb dX7_budget_100 rfl (lv_at hl 0 rfl) ?_
            obtain ⟨r12, hc12, h⟩ := bnd1_inv h
            have hFc := va_free (wc := (wM k aM Mestimate Munit Msort Mwidth Mmany Mreading Mvariance Mcovariance Mline Mformulas Mroot Mkind Mone Mother Msigns Mplace MleftOf MrightOf Mtype Msum Msign MsignAt Mproduct value_7 slope_7 Mexponent Mdrawn slopes_7 Mfrom Mfactor thrown_5 Mlength Mmodels Mopen Mat Mrows Mx)) hD hS hA [0, 1, 2, 3, 4, 5, 6, 7, 8, 9, 10, 11, 12, 13, 14, 15, 16, 17, 18, 19, 20, 21, 22, 23, 24, 25, 26, 27, 28, 29, 30] rfl
            refine xc_l (va_runV (As := [.long r8]) (rest := []) ⟨hx, hb, hml, hown, hts⟩ (met_X7_statedOf l D k  aM H.size Mestimate Munit Msort Mwidth Mmany Mreading Mvariance Mcovariance Mline Mformulas Mroot Mkind Mone Mother Msigns Mplace MleftOf MrightOf Mtype Msum Msign MsignAt Mproduct value_7 slope_7 Mexponent Mdrawn slopes_7 Mfrom Mfactor thrown_5 Mlength Mmodels Mopen Mat Mrows Mx r8 r12 hc12) (cwV 1 hts gX7_budget_X7_statedOf rfl rfl rfl (by decide +kernel) ⟨Nat.le_of_ble_eq_true rfl, Nat.le_of_ble_eq_true rfl⟩) ⟨pw_blind, va_recv hK hP (ci := 7) (q0 := 0) rfl rfl, pw_start hP hK hD⟩ rfl rfl hl.1 rfl (lv_room (Nat.le_of_ble_eq_true rfl)) dX7_budget_101 ⟨Nat.zero_le _, Nat.zero_le _⟩) hS hFc (fun H1 locs hP1 hD1 hk1 hS => ?_)
            obtain ⟨hP, hD⟩ := vj_all hFc hP1 hD1
            clear hP1 hD1 hk1 hFc
            generalize H1 = H at hP hS ⊢
            have hP9 := hP
            have hD9 := hD
            have hS9 := hS
            subst hQ
            cases h
            exact W.lret hx hb hr (fun t ht hW => ⟨⟨_, (), rfl, rfl, by rw [ht]; exact hP9, va_K.moved hW.alike hK, hD9⟩, hS9.F ht⟩) hS9.2.2 dX7_budget_104
          · replace h := sf_t c11 h
            refine lv_aload_n hx hb dX7_budget_81 rfl (lv_at hl 1 rfl) ?_
            refine lv_aload_n hx hb dX7_budget_82 rfl (lv_at hl 1 rfl) ?_
            refine lv_lload_n hx hb dX7_budget_83 rfl (lv_at hl 0 rfl) ?_
            obtain ⟨r13, hc13, h⟩ := bnd1_inv h
            have hFc := va_free (wc := (wM k aM Mestimate Munit Msort Mwidth Mmany Mreading Mvariance Mcovariance Mline Mformulas Mroot Mkind Mone Mother Msigns Mplace MleftOf MrightOf Mtype Msum Msign MsignAt Mproduct value_7 slope_7 Mexponent Mdrawn slopes_7 Mfrom Mfactor thrown_5 Mlength Mmodels Mopen Mat Mrows Mx)) hD hS hA [0, 1, 2, 3, 4, 5, 6, 7, 8, 9, 10, 11, 12, 13, 14, 15, 16, 17, 18, 19, 20, 21, 22, 23, 24, 25, 26, 27, 28, 29, 30] rfl
            refine xc_l (va_runV (As := [.long r8]) (rest := [.ref (aM 0)]) ⟨hx, hb, hml, hown, hts⟩ (met_X7_degrees l D k  aM H.size Mestimate Munit Msort Mwidth Mmany Mreading Mvariance Mcovariance Mline Mformulas Mroot Mkind Mone Mother Msigns Mplace MleftOf MrightOf Mtype Msum Msign MsignAt Mproduct value_7 slope_7 Mexponent Mdrawn slopes_7 Mfrom Mfactor thrown_5 Mlength Mmodels Mopen Mat Mrows Mx r8 r13 hc13) (cwV 1 hts gX7_budget_X7_degrees rfl rfl rfl (by decide +kernel) ⟨Nat.le_of_ble_eq_true rfl, Nat.le_of_ble_eq_true rfl⟩) ⟨pw_blind, va_recv hK hP (ci := 7) (q0 := 0) rfl rfl, pw_start hP hK hD⟩ rfl rfl hl.1 rfl (lv_room (Nat.le_of_ble_eq_true rfl)) dX7_budget_84 ⟨Nat.zero_le _, Nat.zero_le _⟩) hS hFc (fun H1 locs hP1 hD1 hk1 hS => ?_)
            obtain ⟨hP, hD⟩ := vj_all hFc hP1 hD1
            clear hP1 hD1 hk1 hFc
            generalize H1 = H at hP hS ⊢
            refine lv_aload_n hx hb dX7_budget_87 rfl (lv_at hl 1 rfl) ?_
            refine lv_lload_n hx hb dX7_budget_88 rfl (lv_at hl 0 rfl) ?_
            obtain ⟨r14, hc14, h⟩ := bnd1_inv h
            have hFc := va_free (wc := (wM k aM Mestimate Munit Msort Mwidth Mmany Mreading Mvariance Mcovariance Mline Mformulas Mroot Mkind Mone Mother Msigns Mplace MleftOf MrightOf Mtype Msum Msign MsignAt Mproduct value_7 slope_7 Mexponent Mdrawn slopes_7 Mfrom Mfactor thrown_5 Mlength Mmodels Mopen Mat Mrows Mx)) hD hS hA [0, 1, 2, 3, 4, 5, 6, 7, 8, 9, 10, 11, 12, 13, 14, 15, 16, 17, 18, 19, 20, 21, 22, 23, 24, 25, 26, 27, 28, 29, 30] rfl
            refine xc_i (va_runV (As := [.long r8]) (rest := [.long r13, .ref (aM 0)]) ⟨hx, hb, hml, hown, hts⟩ (met_X7_hasNone l D k  aM H.size Mestimate Munit Msort Mwidth Mmany Mreading Mvariance Mcovariance Mline Mformulas Mroot Mkind Mone Mother Msigns Mplace MleftOf MrightOf Mtype Msum Msign MsignAt Mproduct value_7 slope_7 Mexponent Mdrawn slopes_7 Mfrom Mfactor thrown_5 Mlength Mmodels Mopen Mat Mrows Mx r8 r14 hc14) (cwV 1 hts gX7_budget_X7_hasNone rfl rfl rfl (by decide +kernel) ⟨Nat.le_of_ble_eq_true rfl, Nat.le_of_ble_eq_true rfl⟩) ⟨pw_blind, va_recv hK hP (ci := 7) (q0 := 0) rfl rfl, pw_start hP hK hD⟩ rfl rfl hl.1 rfl (lv_room (Nat.le_of_ble_eq_true rfl)) dX7_budget_89 ⟨Nat.zero_le _, Nat.zero_le _⟩) hS hFc (fun H1 locs hP1 hD1 hk1 hS => ?_)
            obtain ⟨hP, hD⟩ := vj_all hFc hP1 hD1
            clear hP1 hD1 hk1 hFc
            generalize H1 = H at hP hS ⊢
            obtain ⟨r15, hc15, h⟩ := bnd1_inv h
            have hFc := va_free (wc := (wM k aM Mestimate Munit Msort Mwidth Mmany Mreading Mvariance Mcovariance Mline Mformulas Mroot Mkind Mone Mother Msigns Mplace MleftOf MrightOf Mtype Msum Msign MsignAt Mproduct value_7 slope_7 Mexponent Mdrawn slopes_7 Mfrom Mfactor thrown_5 Mlength Mmodels Mopen Mat Mrows Mx)) hD hS hA [0, 1, 2, 3, 4, 5, 6, 7, 8, 9, 10, 11, 12, 13, 14, 15, 16, 17, 18, 19, 20, 21, 22, 23, 24, 25, 26, 27, 28, 29, 30] rfl
            refine xc_i (va_runV (As := [.long r13, .int r14]) (rest := []) ⟨hx, hb, hml, hown, hts⟩ (met_X7_factorFor l D k  aM H.size Mestimate Munit Msort Mwidth Mmany Mreading Mvariance Mcovariance Mline Mformulas Mroot Mkind Mone Mother Msigns Mplace MleftOf MrightOf Mtype Msum Msign MsignAt Mproduct value_7 slope_7 Mexponent Mdrawn slopes_7 Mfrom Mfactor thrown_5 Mlength Mmodels Mopen Mat Mrows Mx r13 r14 r15 hc15) (cwV 2 hts gX7_budget_X7_factorFor rfl rfl rfl (by decide +kernel) ⟨Nat.le_of_ble_eq_true rfl, Nat.le_of_ble_eq_true rfl⟩) ⟨pw_blind, va_recv hK hP (ci := 7) (q0 := 0) rfl rfl, pw_start hP hK hD⟩ rfl rfl hl.1 rfl (lv_room (Nat.le_of_ble_eq_true rfl)) dX7_budget_92 ⟨Nat.zero_le _, Nat.zero_le _⟩) hS hFc (fun H1 locs hP1 hD1 hk1 hS => ?_)
            obtain ⟨hP, hD⟩ := vj_all hFc hP1 hD1
            clear hP1 hD1 hk1 hFc
            generalize H1 = H at hP hS ⊢
            refine lv_i2l hx hb dX7_budget_95 rfl ?_
            refine lv_goto (tgt := 104) hx hb dX7_budget_96 (by decide) ?_
            have hP9 := hP
            have hD9 := hD
            have hS9 := hS
            subst hQ
            cases h
            exact W.lret hx hb hr (fun t ht hW => ⟨⟨_, (), rfl, rfl, by rw [ht]; exact hP9, va_K.moved hW.alike hK, hD9⟩, hS9.F ht⟩) hS9.2.2 dX7_budget_104
        · replace h := sf_t c10 h
          refine lv_aload_n hx hb dX7_budget_68 rfl (lv_at hl 1 rfl) ?_
          refine lv_lload_n hx hb dX7_budget_69 rfl (lv_at hl 0 rfl) ?_
          obtain ⟨r16, hc16, h⟩ := bnd1_inv h
          have hFc := va_free (wc := (wM k aM Mestimate Munit Msort Mwidth Mmany Mreading Mvariance Mcovariance Mline Mformulas Mroot Mkind Mone Mother Msigns Mplace MleftOf MrightOf Mtype Msum Msign MsignAt Mproduct value_7 slope_7 Mexponent Mdrawn slopes_7 Mfrom Mfactor thrown_5 Mlength Mmodels Mopen Mat Mrows Mx)) hD hS hA [0, 1, 2, 3, 4, 5, 6, 7, 8, 9, 10, 11, 12, 13, 14, 15, 16, 17, 18, 19, 20, 21, 22, 23, 24, 25, 26, 27, 28, 29, 30] rfl
          refine xc_l (va_runV (As := [.long r8]) (rest := []) ⟨hx, hb, hml, hown, hts⟩ (met_X7_degrees l D k  aM H.size Mestimate Munit Msort Mwidth Mmany Mreading Mvariance Mcovariance Mline Mformulas Mroot Mkind Mone Mother Msigns Mplace MleftOf MrightOf Mtype Msum Msign MsignAt Mproduct value_7 slope_7 Mexponent Mdrawn slopes_7 Mfrom Mfactor thrown_5 Mlength Mmodels Mopen Mat Mrows Mx r8 r16 hc16) (cwV 1 hts gX7_budget_X7_degrees rfl rfl rfl (by decide +kernel) ⟨Nat.le_of_ble_eq_true rfl, Nat.le_of_ble_eq_true rfl⟩) ⟨pw_blind, va_recv hK hP (ci := 7) (q0 := 0) rfl rfl, pw_start hP hK hD⟩ rfl rfl hl.1 rfl (lv_room (Nat.le_of_ble_eq_true rfl)) dX7_budget_70 ⟨Nat.zero_le _, Nat.zero_le _⟩) hS hFc (fun H1 locs hP1 hD1 hk1 hS => ?_)
          obtain ⟨hP, hD⟩ := vj_all hFc hP1 hD1
          clear hP1 hD1 hk1 hFc
          generalize H1 = H at hP hS ⊢
          refine lv_goto (tgt := 104) hx hb dX7_budget_73 (by decide) ?_
          have hP9 := hP
          have hD9 := hD
          have hS9 := hS
          subst hQ
          cases h
          exact W.lret hx hb hr (fun t ht hW => ⟨⟨_, (), rfl, rfl, by rw [ht]; exact hP9, va_K.moved hW.alike hK, hD9⟩, hS9.F ht⟩) hS9.2.2 dX7_budget_104
      · replace h := sf_f c9 h
        refine lv_iload_n hx hb dX7_budget_50 rfl (lv_at hl 3 rfl) ?_
        refine lv_if_ne (tgt := 58) hx hb dX7_budget_51 (by decide) (fun c17 => ?_) (fun c17 => ?_)
        · replace h := sf_f c17 h
          refine lv_lload_n hx hb dX7_budget_58 rfl (lv_at hl 0 rfl) ?_
          obtain ⟨r18, hc18, h⟩ := bnd1_inv h
          have hPc := hP.sub (ws' := ([] : va_W)) [] rfl
          have hDc := hD.sub (ws' := ([] : va_W)) [] rfl rfl
          have hFc := va_free (wc := ([] : va_W)) hD hS hA [] rfl
          refine xc_l (va_runS (As := [.long r8]) (rest := []) ⟨hx, hb, hml, hown, hts⟩ (met_X7_root l D k  H.size r8 r18 hc18) (va_cwS 1 hts gX7_budget_X7_root rfl rfl rfl (by decide +kernel) ⟨Nat.le_of_ble_eq_true rfl, Nat.le_of_ble_eq_true rfl⟩) ⟨pw_blind, pw_start hPc hK hDc⟩ rfl rfl hl.1 rfl (lv_room (Nat.le_of_ble_eq_true rfl)) dX7_budget_59 ⟨Nat.zero_le _, Nat.zero_le _⟩) hS hFc (fun H1 locs hP1 hD1 hk1 hS => ?_)
          obtain ⟨hP, hD⟩ := vj (ws' := (wM k aM Mestimate Munit Msort Mwidth Mmany Mreading Mvariance Mcovariance Mline Mformulas Mroot Mkind Mone Mother Msigns Mplace MleftOf MrightOf Mtype Msum Msign MsignAt Mproduct value_7 slope_7 Mexponent Mdrawn slopes_7 Mfrom Mfactor thrown_5 Mlength Mmodels Mopen Mat Mrows Mx)) (w1 := ([] : va_W)) hP hD [] [0, 1, 2, 3, 4, 5, 6, 7, 8, 9, 10, 11, 12, 13, 14, 15, 16, 17, 18, 19, 20, 21, 22, 23, 24, 25, 26, 27, 28, 29, 30] [0, 1, 2, 3, 4, 5, 6, 7, 8, 9, 10, 11, 12, 13, 14, 15, 16, 17, 18, 19, 20, 21, 22, 23, 24, 25, 26, 27, 28, 29, 30] rfl rfl rfl rfl rfl hk1 hFc hP1 hD1
          clear hP1 hD1 hk1 hFc
          generalize H1 = H at hP hS ⊢
          have hP9 := hP
          have hD9 := hD
          have hS9 := hS
          subst hQ
          cases h
          exact W.lret hx hb hr (fun t ht hW => ⟨⟨_, (), rfl, rfl, by rw [ht]; exact hP9, va_K.moved hW.alike hK, hD9⟩, hS9.F ht⟩) hS9.2.2 dX7_budget_62
        · replace h := sf_t c17 h
          refine lv_lload_n hx hb dX7_budget_54 rfl (lv_at hl 0 rfl) ?_
          refine lv_goto (tgt := 62) hx hb dX7_budget_55 (by decide) ?_
          have hP9 := hP
          have hD9 := hD
          have hS9 := hS
          subst hQ
          cases h
          exact W.lret hx hb hr (fun t ht hW => ⟨⟨_, (), rfl, rfl, by rw [ht]; exact hP9, va_K.moved hW.alike hK, hD9⟩, hS9.F ht⟩) hS9.2.2 dX7_budget_62
    · replace h := sf_t c6 h
      refine lv_lconst (v := 0) hx hb dX7_budget_33 (by decide) ?_
      have hP9 := hP
      have hD9 := hD
      have hS9 := hS
      subst hQ
      cases h
      exact W.lret hx hb hr (fun t ht hW => ⟨⟨_, (), rfl, rfl, by rw [ht]; exact hP9, va_K.moved hW.alike hK, hD9⟩, hS9.F ht⟩) hS9.2.2 dX7_budget_34
  suffices main : ∀ (H : Heap) (locs : List Loc) (ls : Array Slot), va_P D vwCl (wM k aM Mestimate Munit Msort Mwidth Mmany Mreading Mvariance Mcovariance Mline Mformulas Mroot Mkind Mone Mother Msigns Mplace MleftOf MrightOf Mtype Msum Msign MsignAt Mproduct Mvalue Mslope Mexponent Mdrawn Mslopes Mfrom Mfactor Mthrown Mlength Mmodels Mopen Mat Mrows Mx) H → va_D A (wM k aM Mestimate Munit Msort Mwidth Mmany Mreading Mvariance Mcovariance Mline Mformulas Mroot Mkind Mone Mother Msigns Mplace MleftOf MrightOf Mtype Msum Msign MsignAt Mproduct Mvalue Mslope Mexponent Mdrawn Mslopes Mfrom Mfactor Mthrown Mlength Mmodels Mopen Mat Mrows Mx) → va_S A s.heap H locs → lv_has ls 5 [(0, .ref (aM 0)), (1, .int v1), (2, .int v2)] → W p l e rmX7_budget s m args below meth c H locs 0 0 Q (F0 m 0 ls []) from main _ _ _ hP hD hS hl
  clear hP hD hS hl ls hAe
  intro H locs ls hP hD hS hl
  refine lv_aload_n hx hb dX7_budget_0 rfl (lv_at hl 0 rfl) ?_
  refine lv_aload_n hx hb dX7_budget_1 rfl (lv_at hl 0 rfl) ?_
  refine lv_iload_n hx hb dX7_budget_2 rfl (lv_at hl 1 rfl) ?_
  obtain ⟨r1, hc1, h⟩ := bnd1_inv h
  have hFc := va_free (wc := (wM k aM Mestimate Munit Msort Mwidth Mmany Mreading Mvariance Mcovariance Mline Mformulas Mroot Mkind Mone Mother Msigns Mplace MleftOf MrightOf Mtype Msum Msign MsignAt Mproduct Mvalue Mslope Mexponent Mdrawn Mslopes Mfrom Mfactor Mthrown Mlength Mmodels Mopen Mat Mrows Mx)) hD hS hA [0, 1, 2, 3, 4, 5, 6, 7, 8, 9, 10, 11, 12, 13, 14, 15, 16, 17, 18, 19, 20, 21, 22, 23, 24, 25, 26, 27, 28, 29, 30] rfl
  refine xc_i (va_runV (As := [.int v1]) (rest := [.ref (aM 0)]) ⟨hx, hb, hml, hown, hts⟩ (met_X7_isModel l D k  aM H.size Mestimate Munit Msort Mwidth Mmany Mreading Mvariance Mcovariance Mline Mformulas Mroot Mkind Mone Mother Msigns Mplace MleftOf MrightOf Mtype Msum Msign MsignAt Mproduct Mvalue Mslope Mexponent Mdrawn Mslopes Mfrom Mfactor Mthrown Mlength Mmodels Mopen Mat Mrows Mx v1 r1 hc1) (cwV 1 hts gX7_budget_X7_isModel rfl rfl rfl (by decide +kernel) ⟨Nat.le_of_ble_eq_true rfl, Nat.le_of_ble_eq_true rfl⟩) ⟨pw_blind, va_recv hK hP (ci := 7) (q0 := 0) rfl rfl, pw_start hP hK hD⟩ rfl rfl hl.1 rfl (lv_room (Nat.le_of_ble_eq_true rfl)) dX7_budget_3 ⟨Nat.zero_le _, Nat.zero_le _⟩) hS hFc (fun H1 locs hP1 hD1 hk1 hS => ?_)
  obtain ⟨hP, hD⟩ := vj_all hFc hP1 hD1
  clear hP1 hD1 hk1 hFc
  generalize H1 = H at hP hS ⊢
  refine lv_if_ne (tgt := 13) hx hb dX7_budget_6 (by decide) (fun c2 => ?_) (fun c2 => ?_)
  · replace h := sf_f c2 h
    refine lv_iload_n hx hb dX7_budget_13 rfl (lv_at hl 2 rfl) ?_
    refine lv_iconst (v := 0) hx hb dX7_budget_14 (by decide) ?_
    refine lv_iconst (v := 4) hx hb dX7_budget_15 (by decide) ?_
    obtain ⟨r3, hc3, h⟩ := bnd1_inv h
    have hPc := hP.sub (ws' := ([] : va_W)) [] rfl
    have hDc := hD.sub (ws' := ([] : va_W)) [] rfl rfl
    have hFc := va_free (wc := ([] : va_W)) hD hS hA [] rfl
    refine xc_i (va_runS (As := [.int v2, .int 0, .int 4]) (rest := [.ref (aM 0)]) ⟨hx, hb, hml, hown, hts⟩ (met_X7_isIn l D k  H.size v2 0 4 r3 hc3) (va_cwS 3 hts gX7_budget_X7_isIn rfl rfl rfl (by decide +kernel) ⟨Nat.le_of_ble_eq_true rfl, Nat.le_of_ble_eq_true rfl⟩) ⟨pw_blind, pw_start hPc hK hDc⟩ rfl rfl hl.1 rfl (lv_room (Nat.le_of_ble_eq_true rfl)) dX7_budget_16 ⟨Nat.zero_le _, Nat.zero_le _⟩) hS hFc (fun H1 locs hP1 hD1 hk1 hS => ?_)
    obtain ⟨hP, hD⟩ := vj (ws' := (wM k aM Mestimate Munit Msort Mwidth Mmany Mreading Mvariance Mcovariance Mline Mformulas Mroot Mkind Mone Mother Msigns Mplace MleftOf MrightOf Mtype Msum Msign MsignAt Mproduct Mvalue Mslope Mexponent Mdrawn Mslopes Mfrom Mfactor Mthrown Mlength Mmodels Mopen Mat Mrows Mx)) (w1 := ([] : va_W)) hP hD [] [0, 1, 2, 3, 4, 5, 6, 7, 8, 9, 10, 11, 12, 13, 14, 15, 16, 17, 18, 19, 20, 21, 22, 23, 24, 25, 26, 27, 28, 29, 30] [0, 1, 2, 3, 4, 5, 6, 7, 8, 9, 10, 11, 12, 13, 14, 15, 16, 17, 18, 19, 20, 21, 22, 23, 24, 25, 26, 27, 28, 29, 30] rfl rfl rfl rfl rfl hk1 hFc hP1 hD1
    clear hP1 hD1 hk1 hFc
    generalize H1 = H at hP hS ⊢
    refine lv_if_eq (tgt := 26) hx hb dX7_budget_19 (by decide) (fun c4 => ?_) (fun c4 => ?_)
    · replace h := sf_t c4 h
      refine lv_iconst (v := 2) hx hb dX7_budget_26 (by decide) ?_
      exact BH_27  _ _ _ _ _ h _ _ _ hP hD hS (lv_sub hl [0, 1, 2] rfl)
    · replace h := sf_f c4 h
      refine lv_iconst (v := 0) hx hb dX7_budget_22 (by decide) ?_
      refine lv_goto (tgt := 27) hx hb dX7_budget_23 (by decide) ?_
      exact BH_27  _ _ _ _ _ h _ _ _ hP hD hS (lv_sub hl [0, 1, 2] rfl)
  · replace h := sf_t c2 h
    refine lv_iconst (v := 1) hx hb dX7_budget_9 (by decide) ?_
    refine lv_goto (tgt := 27) hx hb dX7_budget_10 (by decide) ?_
    exact BH_27  _ _ _ _ _ h _ _ _ hP hD hS (lv_sub hl [0, 1, 2] rfl)
def BX7_contribution_21 (Mestimate : Nat → Int32) (Mvariance : Nat → Int32) (Mcovariance : Nat → Int32) (Mformulas : Nat → Int32) (Mroot : Nat → Int32) (Mkind : Nat → Int32) (Mone : Nat → Int32) (Mother : Nat → Int32) (Mdrawn : Nat → Int32) (Mmodels : Int32) (v1 : Int32) (v2 : Int32) (v3 : Int32)  (s1 : Int32) (Mvalue : Nat → Int64) (Mslope : Nat → Int64) (Mslopes : Nat → Int64) (Mthrown : Int32) : Option (Int64 × (Nat → Int64) × (Nat → Int64) × (Nat → Int64) × Int32) := bnd2 (fX7_holds s1 Mthrown) (fun r3 thrown_3 => (if r3 = 0 then some (0, Mvalue, Mslope, Mslopes, thrown_3) else bnd3 (fX7_laysSlopes v1 Mestimate Mformulas Mroot Mkind Mone Mother Mvalue Mslope Mdrawn Mslopes) (fun value_5 slope_5 slopes_5 => (if v3 = 0 then bnd1 (fX7_part v2 Mvariance slopes_5) (fun r7 => some (r7, value_5, slope_5, slopes_5, thrown_3)) else bnd1 (fX7_varianceOf Mvariance Mcovariance slopes_5) (fun r8 => bnd1 (fX7_shareOf v2 r8 Mvariance slopes_5) (fun r9 => some (r9, value_5, slope_5, slopes_5, thrown_3)))))))
def BX7_contribution_20 (Mestimate : Nat → Int32) (Mvariance : Nat → Int32) (Mcovariance : Nat → Int32) (Mformulas : Nat → Int32) (Mroot : Nat → Int32) (Mkind : Nat → Int32) (Mone : Nat → Int32) (Mother : Nat → Int32) (Mdrawn : Nat → Int32) (Mmodels : Int32) (v1 : Int32) (v2 : Int32) (v3 : Int32)  (Mvalue : Nat → Int64) (Mslope : Nat → Int64) (Mslopes : Nat → Int64) (Mthrown : Int32) : Option (Int64 × (Nat → Int64) × (Nat → Int64) × (Nat → Int64) × Int32) := BX7_contribution_21 Mestimate Mvariance Mcovariance Mformulas Mroot Mkind Mone Mother Mdrawn Mmodels v1 v2 v3 1 Mvalue Mslope Mslopes Mthrown
def fX7_contribution (v1 : Int32) (v2 : Int32) (v3 : Int32) (Mestimate : Nat → Int32) (Mvariance : Nat → Int32) (Mcovariance : Nat → Int32) (Mformulas : Nat → Int32) (Mroot : Nat → Int32) (Mkind : Nat → Int32) (Mone : Nat → Int32) (Mother : Nat → Int32) (Mvalue : Nat → Int64) (Mslope : Nat → Int64) (Mdrawn : Nat → Int32) (Mslopes : Nat → Int64) (Mthrown : Int32) (Mmodels : Int32) : Option (Int64 × (Nat → Int64) × (Nat → Int64) × (Nat → Int64) × Int32) := bnd1 (fX7_isModel v1 Mmodels) (fun r1 => (if r1 = 0 then BX7_contribution_20 Mestimate Mvariance Mcovariance Mformulas Mroot Mkind Mone Mother Mdrawn Mmodels v1 v2 v3 Mvalue Mslope Mslopes Mthrown else bnd1 (fX7_isInput v2) (fun r10 => (if r10 = 0 then BX7_contribution_20 Mestimate Mvariance Mcovariance Mformulas Mroot Mkind Mone Mother Mdrawn Mmodels v1 v2 v3 Mvalue Mslope Mslopes Mthrown else BX7_contribution_21 Mestimate Mvariance Mcovariance Mformulas Mroot Mkind Mone Mother Mdrawn Mmodels v1 v2 v3 0 Mvalue Mslope Mslopes Mthrown))))
abbrev rmX7_contribution : Room := { frames := 3, cells := 0, slots := 0, locals := 76 }
set_option maxHeartbeats 4000000 in
set_option maxRecDepth 100000 in
theorem met_X7_contribution (l : Launch) (D : va_G) (k : Nat → ClassId)  (aM : Nat → Nat) (sz : Nat) (Mestimate : Nat → Int32) (Munit : Nat → Int32) (Msort : Nat → Int32) (Mwidth : Nat → Int32) (Mmany : Nat → Int32) (Mreading : Nat → Int32) (Mvariance : Nat → Int32) (Mcovariance : Nat → Int32) (Mline : Nat → Int32) (Mformulas : Nat → Int32) (Mroot : Nat → Int32) (Mkind : Nat → Int32) (Mone : Nat → Int32) (Mother : Nat → Int32) (Msigns : Nat → Int32) (Mplace : Nat → Int32) (MleftOf : Nat → Int32) (MrightOf : Nat → Int32) (Mtype : Nat → Int32) (Msum : Nat → Int32) (Msign : Nat → Int32) (MsignAt : Nat → Int32) (Mproduct : Nat → Int32) (Mvalue : Nat → Int64) (Mslope : Nat → Int64) (Mexponent : Nat → Int32) (Mdrawn : Nat → Int32) (Mslopes : Nat → Int64) (Mfrom : Nat → Int32) (Mfactor : Nat → Int32) (Mthrown : Int32) (Mlength : Int32) (Mmodels : Int32) (Mopen : Int32) (Mat : Int32) (Mrows : Int32) (Mx : Int32) (v1 : Int32) (v2 : Int32) (v3 : Int32) (r : Int64) (RMvalue : Nat → Int64) (RMslope : Nat → Int64) (RMslopes : Nat → Int64) (RMthrown : Int32) (h : fX7_contribution v1 v2 v3 Mestimate Mvariance Mcovariance Mformulas Mroot Mkind Mone Mother Mvalue Mslope Mdrawn Mslopes Mthrown Mmodels = some (r, RMvalue, RMslope, RMslopes, RMthrown)) : Met l yX7_contribution wsX7_contribution rmX7_contribution (va_Pc [.ref (aM 0), .int v1, .int v2, .int v3] (PreW D k (wM k aM Mestimate Munit Msort Mwidth Mmany Mreading Mvariance Mcovariance Mline Mformulas Mroot Mkind Mone Mother Msigns Mplace MleftOf MrightOf Mtype Msum Msign MsignAt Mproduct Mvalue Mslope Mexponent Mdrawn Mslopes Mfrom Mfactor Mthrown Mlength Mmodels Mopen Mat Mrows Mx) sz)) (va_Ql (fun r9 (_ : Unit) => r9 = r) (fun _ t => PostW D k (va_A (wM k aM Mestimate Munit Msort Mwidth Mmany Mreading Mvariance Mcovariance Mline Mformulas Mroot Mkind Mone Mother Msigns Mplace MleftOf MrightOf Mtype Msum Msign MsignAt Mproduct Mvalue Mslope Mexponent Mdrawn Mslopes Mfrom Mfactor Mthrown Mlength Mmodels Mopen Mat Mrows Mx) sz) (wM k aM Mestimate Munit Msort Mwidth Mmany Mreading Mvariance Mcovariance Mline Mformulas Mroot Mkind Mone Mother Msigns Mplace MleftOf MrightOf Mtype Msum Msign MsignAt Mproduct RMvalue RMslope Mexponent Mdrawn RMslopes Mfrom Mfactor RMthrown Mlength Mmodels Mopen Mat Mrows Mx) t) (va_A (wM k aM Mestimate Munit Msort Mwidth Mmany Mreading Mvariance Mcovariance Mline Mformulas Mroot Mkind Mone Mother Msigns Mplace MleftOf MrightOf Mtype Msum Msign MsignAt Mproduct Mvalue Mslope Mexponent Mdrawn Mslopes Mfrom Mfactor Mthrown Mlength Mmodels Mopen Mat Mrows Mx) sz)) 0 0 (va_A (wM k aM Mestimate Munit Msort Mwidth Mmany Mreading Mvariance Mcovariance Mline Mformulas Mroot Mkind Mone Mother Msigns Mplace MleftOf MrightOf Mtype Msum Msign MsignAt Mproduct Mvalue Mslope Mexponent Mdrawn Mslopes Mfrom Mfactor Mthrown Mlength Mmodels Mopen Mat Mrows Mx) sz) := by
  refine Met.ofW (cc := cX7_contribution) (maxL := 4) (ret := (some .long)) (by decide) rfl ?_
  intro p e s m args below meth c s₁ B hml hv
  obtain ⟨hav, hsz, hP, hK, hD0⟩ := hv
  have hx := B.exec
  have hb := B.bytes
  have hr := B.returns
  have hts := atoms_spec (ws := wsX7_contribution) B.pre
  have hown : s.vm.findClass RX7 = some m.cls := findClass_of_methodNamed B.named
  have hlocks := B.notSynchronized
  subst hsz
  have hD := hD0.self (sz := s.heap.size)
  clear hD0
  generalize hAe : va_A (wM k aM Mestimate Munit Msort Mwidth Mmany Mreading Mvariance Mcovariance Mline Mformulas Mroot Mkind Mone Mother Msigns Mplace MleftOf MrightOf Mtype Msum Msign MsignAt Mproduct Mvalue Mslope Mexponent Mdrawn Mslopes Mfrom Mfactor Mthrown Mlength Mmodels Mopen Mat Mrows Mx) s.heap.size = A at hD ⊢
  have hA : ∀ q : Nat, s.heap.size ≤ q → A q := fun q h => by rw [← hAe]; exact Or.inr h
  have hS : va_S A s.heap s.heap [] := va_S.rf
  have hl := lv_entry ([.ref (aM 0), .int v1, .int v2, .int v3]) (n := 4) (Nat.le_of_ble_eq_true rfl)
  rw [show entryFrame m args 4 = entryFrame m ([.ref (aM 0), .int v1, .int v2, .int v3] : List Value).toArray 4 from by rw [hav], lg_entry_eq]
  generalize (lg_sl ([.ref (aM 0), .int v1, .int v2, .int v3]) ++ List.replicate (4 - (lg_sl ([.ref (aM 0), .int v1, .int v2, .int v3])).length) Slot.unset).toArray = ls at hl ⊢
  replace hl : lv_has ls 4 [(0, .ref (aM 0)), (1, .int v1), (2, .int v2), (3, .int v3)] := hl
  refine w_q (fun Q hQ => ?_)
  unfold fX7_contribution at h
  show W p l e rmX7_contribution s m args below meth c s.heap [] 0 0 Q (F0 m 0 ls [])
  have BH_21 : ∀ (s1 : Int32) (Mvalue : Nat → Int64) (Mslope : Nat → Int64) (Mslopes : Nat → Int64) (Mthrown : Int32), BX7_contribution_21 Mestimate Mvariance Mcovariance Mformulas Mroot Mkind Mone Mother Mdrawn Mmodels v1 v2 v3 s1 Mvalue Mslope Mslopes Mthrown = some (r, RMvalue, RMslope, RMslopes, RMthrown) → ∀ (H : Heap) (locs : List Loc) (ls : Array Slot), va_P D vwCl (wM k aM Mestimate Munit Msort Mwidth Mmany Mreading Mvariance Mcovariance Mline Mformulas Mroot Mkind Mone Mother Msigns Mplace MleftOf MrightOf Mtype Msum Msign MsignAt Mproduct Mvalue Mslope Mexponent Mdrawn Mslopes Mfrom Mfactor Mthrown Mlength Mmodels Mopen Mat Mrows Mx) H → va_D A (wM k aM Mestimate Munit Msort Mwidth Mmany Mreading Mvariance Mcovariance Mline Mformulas Mroot Mkind Mone Mother Msigns Mplace MleftOf MrightOf Mtype Msum Msign MsignAt Mproduct Mvalue Mslope Mexponent Mdrawn Mslopes Mfrom Mfactor Mthrown Mlength Mmodels Mopen Mat Mrows Mx) → va_S A s.heap H locs → lv_has ls 4 [(0, .ref (aM 0)), (1, .int v1), (2, .int v2), (3, .int v3)] → W p l e rmX7_contribution s m args below meth c H locs 0 0 Q (F0 m 21 ls [.int s1, .ref (aM 0)]) := by
    intro  s1 Mvalue Mslope Mslopes Mthrown h H locs ls hP hD hS hl
    unfold BX7_contribution_21 at h
    obtain ⟨r3, thrown_3, hc3, h⟩ := bnd2_inv h
    have hFc := va_free (wc := (wM k aM Mestimate Munit Msort Mwidth Mmany Mreading Mvariance Mcovariance Mline Mformulas Mroot Mkind Mone Mother Msigns Mplace MleftOf MrightOf Mtype Msum Msign MsignAt Mproduct Mvalue Mslope Mexponent Mdrawn Mslopes Mfrom Mfactor Mthrown Mlength Mmodels Mopen Mat Mrows Mx)) hD hS hA [0, 1, 2, 3, 4, 5, 6, 7, 8, 9, 10, 11, 12, 13, 14, 15, 16, 17, 18, 19, 20, 21, 22, 23, 24, 25, 26, 27, 28, 29, 30] rfl
    refine xc_i (va_runV (As := [.int s1]) (rest := []) ⟨hx, hb, hml, hown, hts⟩ (met_X7_holds l D k  aM H.size Mestimate Munit Msort Mwidth Mmany Mreading Mvariance Mcovariance Mline Mformulas Mroot Mkind Mone Mother Msigns Mplace MleftOf MrightOf Mtype Msum Msign MsignAt Mproduct Mvalue Mslope Mexponent Mdrawn Mslopes Mfrom Mfactor Mthrown Mlength Mmodels Mopen Mat Mrows Mx s1 r3 thrown_3 hc3) (cwV 1 hts gX7_contribution_X7_holds rfl rfl rfl (by decide +kernel) ⟨Nat.le_of_ble_eq_true rfl, Nat.le_of_ble_eq_true rfl⟩) ⟨pw_blind, va_recv hK hP (ci := 7) (q0 := 0) rfl rfl, pw_start hP hK hD⟩ rfl rfl hl.1 rfl (lv_room (Nat.le_of_ble_eq_true rfl)) dX7_contribution_21 ⟨Nat.zero_le _, Nat.zero_le _⟩) hS hFc (fun H1 locs hP1 hD1 hk1 hS => ?_)
    obtain ⟨hP, hD⟩ := vj_all hFc hP1 hD1
    clear hP1 hD1 hk1 hFc
    generalize H1 = H at hP hS ⊢
    refine lv_if_ne (tgt := 29) hx hb dX7_contribution_24 (by decide) (fun c4 => ?_) (fun c4 => ?_)
    · replace h := sf_f c4 h
      refine lv_aload_n hx hb dX7_contribution_29 rfl (lv_at hl 0 rfl) ?_
      refine lv_iload_n hx hb dX7_contribution_30 rfl (lv_at hl 1 rfl) ?_
      obtain ⟨value_5, slope_5, slopes_5, hc5, h⟩ := bnd3_inv h
      have hFc := va_free (wc := (wM k aM Mestimate Munit Msort Mwidth Mmany Mreading Mvariance Mcovariance Mline Mformulas Mroot Mkind Mone Mother Msigns Mplace MleftOf MrightOf Mtype Msum Msign MsignAt Mproduct Mvalue Mslope Mexponent Mdrawn Mslopes Mfrom Mfactor thrown_3 Mlength Mmodels Mopen Mat Mrows Mx)) hD hS hA [0, 1, 2, 3, 4, 5, 6, 7, 8, 9, 10, 11, 12, 13, 14, 15, 16, 17, 18, 19, 20, 21, 22, 23, 24, 25, 26, 27, 28, 29, 30] rfl
      refine xc_v (va_runV (As := [.int v1]) (rest := []) ⟨hx, hb, hml, hown, hts⟩ (met_X7_laysSlopes l D k  aM H.size Mestimate Munit Msort Mwidth Mmany Mreading Mvariance Mcovariance Mline Mformulas Mroot Mkind Mone Mother Msigns Mplace MleftOf MrightOf Mtype Msum Msign MsignAt Mproduct Mvalue Mslope Mexponent Mdrawn Mslopes Mfrom Mfactor thrown_3 Mlength Mmodels Mopen Mat Mrows Mx v1 value_5 slope_5 slopes_5 hc5) (cwV 1 hts gX7_contribution_X7_laysSlopes rfl rfl rfl (by decide +kernel) ⟨Nat.le_of_ble_eq_true rfl, Nat.le_of_ble_eq_true rfl⟩) ⟨pw_blind, va_recv hK hP (ci := 7) (q0 := 0) rfl rfl, pw_start hP hK hD⟩ rfl rfl hl.1 rfl (lv_room (Nat.le_of_ble_eq_true rfl)) dX7_contribution_31 ⟨Nat.zero_le _, Nat.zero_le _⟩) hS hFc (fun H1 locs hP1 hD1 hk1 hS => ?_)
      obtain ⟨hP, hD⟩ := vj_all hFc hP1 hD1
      clear hP1 hD1 hk1 hFc
      generalize H1 = H at hP hS ⊢
      refine lv_iload_n hx hb dX7_contribution_34 rfl (lv_at hl 3 rfl) ?_
      refine lv_if_eq (tgt := 50) hx hb dX7_contribution_35 (by decide) (fun c6 => ?_) (fun c6 => ?_)
      · replace h := sf_t c6 h
        refine lv_aload_n hx hb dX7_contribution_50 rfl (lv_at hl 0 rfl) ?_
        refine lv_iload_n hx hb dX7_contribution_51 rfl (lv_at hl 2 rfl) ?_
        obtain ⟨r7, hc7, h⟩ := bnd1_inv h
        have hFc := va_free (wc := (wM k aM Mestimate Munit Msort Mwidth Mmany Mreading Mvariance Mcovariance Mline Mformulas Mroot Mkind Mone Mother Msigns Mplace MleftOf MrightOf Mtype Msum Msign MsignAt Mproduct value_5 slope_5 Mexponent Mdrawn slopes_5 Mfrom Mfactor thrown_3 Mlength Mmodels Mopen Mat Mrows Mx)) hD hS hA [0, 1, 2, 3, 4, 5, 6, 7, 8, 9, 10, 11, 12, 13, 14, 15, 16, 17, 18, 19, 20, 21, 22, 23, 24, 25, 26, 27, 28, 29, 30] rfl
        refine xc_l (va_runV (As := [.int v2]) (rest := []) ⟨hx, hb, hml, hown, hts⟩ (met_X7_part l D k  aM H.size Mestimate Munit Msort Mwidth Mmany Mreading Mvariance Mcovariance Mline Mformulas Mroot Mkind Mone Mother Msigns Mplace MleftOf MrightOf Mtype Msum Msign MsignAt Mproduct value_5 slope_5 Mexponent Mdrawn slopes_5 Mfrom Mfactor thrown_3 Mlength Mmodels Mopen Mat Mrows Mx v2 r7 hc7) (cwV 1 hts gX7_contribution_X7_part rfl rfl rfl (by decide +kernel) ⟨Nat.le_of_ble_eq_true rfl, Nat.le_of_ble_eq_true rfl⟩) ⟨pw_blind, va_recv hK hP (ci := 7) (q0 := 0) rfl rfl, pw_start hP hK hD⟩ rfl rfl hl.1 rfl (lv_room (Nat.le_of_ble_eq_true rfl)) dX7_contribution_52 ⟨Nat.zero_le _, Nat.zero_le _⟩) hS hFc (fun H1 locs hP1 hD1 hk1 hS => ?_)
        obtain ⟨hP, hD⟩ := vj_all hFc hP1 hD1
        clear hP1 hD1 hk1 hFc
        generalize H1 = H at hP hS ⊢
        have hP9 := hP
        have hD9 := hD
        have hS9 := hS
        subst hQ
        cases h
        exact W.lret hx hb hr (fun t ht hW => ⟨⟨_, (), rfl, rfl, by rw [ht]; exact hP9, va_K.moved hW.alike hK, hD9⟩, hS9.F ht⟩) hS9.2.2 dX7_contribution_55
      · replace h := sf_f c6 h
        refine lv_aload_n hx hb dX7_contribution_38 rfl (lv_at hl 0 rfl) ?_
        refine lv_iload_n hx hb dX7_contribution_39 rfl (lv_at hl 2 rfl) ?_
        refine lv_aload_n hx hb dX7_contribution_40 rfl (lv_at hl 0 rfl) ?_
        obtain ⟨r8, hc8, h⟩ := bnd1_inv h
        have hFc := va_free (wc := (wM k aM Mestimate Munit Msort Mwidth Mmany Mreading Mvariance Mcovariance Mline Mformulas Mroot Mkind Mone Mother Msigns Mplace MleftOf MrightOf Mtype Msum Msign MsignAt Mproduct value_5 slope_5 Mexponent Mdrawn slopes_5 Mfrom Mfactor thrown_3 Mlength Mmodels Mopen Mat Mrows Mx)) hD hS hA [0, 1, 2, 3, 4, 5, 6, 7, 8, 9, 10, 11, 12, 13, 14, 15, 16, 17, 18, 19, 20, 21, 22, 23, 24, 25, 26, 27, 28, 29, 30] rfl
        refine xc_l (va_runV (As := []) (rest := [.int v2, .ref (aM 0)]) ⟨hx, hb, hml, hown, hts⟩ (met_X7_varianceOf l D k  aM H.size Mestimate Munit Msort Mwidth Mmany Mreading Mvariance Mcovariance Mline Mformulas Mroot Mkind Mone Mother Msigns Mplace MleftOf MrightOf Mtype Msum Msign MsignAt Mproduct value_5 slope_5 Mexponent Mdrawn slopes_5 Mfrom Mfactor thrown_3 Mlength Mmodels Mopen Mat Mrows Mx r8 hc8) (cwV 0 hts gX7_contribution_X7_varianceOf rfl rfl rfl (by decide +kernel) ⟨Nat.le_of_ble_eq_true rfl, Nat.le_of_ble_eq_true rfl⟩) ⟨pw_blind, va_recv hK hP (ci := 7) (q0 := 0) rfl rfl, pw_start hP hK hD⟩ rfl rfl hl.1 rfl (lv_room (Nat.le_of_ble_eq_true rfl)) dX7_contribution_41 ⟨Nat.zero_le _, Nat.zero_le _⟩) hS hFc (fun H1 locs hP1 hD1 hk1 hS => ?_)
        obtain ⟨hP, hD⟩ := vj_all hFc hP1 hD1
        clear hP1 hD1 hk1 hFc
        generalize H1 = H at hP hS ⊢
        obtain ⟨r9, hc9, h⟩ := bnd1_inv h
        have hFc := va_free (wc := (wM k aM Mestimate Munit Msort Mwidth Mmany Mreading Mvariance Mcovariance Mline Mformulas Mroot Mkind Mone Mother Msigns Mplace MleftOf MrightOf Mtype Msum Msign MsignAt Mproduct value_5 slope_5 Mexponent Mdrawn slopes_5 Mfrom Mfactor thrown_3 Mlength Mmodels Mopen Mat Mrows Mx)) hD hS hA [0, 1, 2, 3, 4, 5, 6, 7, 8, 9, 10, 11, 12, 13, 14, 15, 16, 17, 18, 19, 20, 21, 22, 23, 24, 25, 26, 27, 28, 29, 30] rfl
        refine xc_l (va_runV (As := [.int v2, .long r8]) (rest := []) ⟨hx, hb, hml, hown, hts⟩ (met_X7_shareOf l D k  aM H.size Mestimate Munit Msort Mwidth Mmany Mreading Mvariance Mcovariance Mline Mformulas Mroot Mkind Mone Mother Msigns Mplace MleftOf MrightOf Mtype Msum Msign MsignAt Mproduct value_5 slope_5 Mexponent Mdrawn slopes_5 Mfrom Mfactor thrown_3 Mlength Mmodels Mopen Mat Mrows Mx v2 r8 r9 hc9) (cwV 2 hts gX7_contribution_X7_shareOf rfl rfl rfl (by decide +kernel) ⟨Nat.le_of_ble_eq_true rfl, Nat.le_of_ble_eq_true rfl⟩) ⟨pw_blind, va_recv hK hP (ci := 7) (q0 := 0) rfl rfl, pw_start hP hK hD⟩ rfl rfl hl.1 rfl (lv_room (Nat.le_of_ble_eq_true rfl)) dX7_contribution_44 ⟨Nat.zero_le _, Nat.zero_le _⟩) hS hFc (fun H1 locs hP1 hD1 hk1 hS => ?_)
        obtain ⟨hP, hD⟩ := vj_all hFc hP1 hD1
        clear hP1 hD1 hk1 hFc
        generalize H1 = H at hP hS ⊢
        refine lv_goto (tgt := 55) hx hb dX7_contribution_47 (by decide) ?_
        have hP9 := hP
        have hD9 := hD
        have hS9 := hS
        subst hQ
        cases h
        exact W.lret hx hb hr (fun t ht hW => ⟨⟨_, (), rfl, rfl, by rw [ht]; exact hP9, va_K.moved hW.alike hK, hD9⟩, hS9.F ht⟩) hS9.2.2 dX7_contribution_55
    · replace h := sf_t c4 h
      refine lv_lconst (v := 0) hx hb dX7_contribution_27 (by decide) ?_
      have hP9 := hP
      have hD9 := hD
      have hS9 := hS
      subst hQ
      cases h
      exact W.lret hx hb hr (fun t ht hW => ⟨⟨_, (), rfl, rfl, by rw [ht]; exact hP9, va_K.moved hW.alike hK, hD9⟩, hS9.F ht⟩) hS9.2.2 dX7_contribution_28
  have BH_20 : ∀ (Mvalue : Nat → Int64) (Mslope : Nat → Int64) (Mslopes : Nat → Int64) (Mthrown : Int32), BX7_contribution_20 Mestimate Mvariance Mcovariance Mformulas Mroot Mkind Mone Mother Mdrawn Mmodels v1 v2 v3 Mvalue Mslope Mslopes Mthrown = some (r, RMvalue, RMslope, RMslopes, RMthrown) → ∀ (H : Heap) (locs : List Loc) (ls : Array Slot), va_P D vwCl (wM k aM Mestimate Munit Msort Mwidth Mmany Mreading Mvariance Mcovariance Mline Mformulas Mroot Mkind Mone Mother Msigns Mplace MleftOf MrightOf Mtype Msum Msign MsignAt Mproduct Mvalue Mslope Mexponent Mdrawn Mslopes Mfrom Mfactor Mthrown Mlength Mmodels Mopen Mat Mrows Mx) H → va_D A (wM k aM Mestimate Munit Msort Mwidth Mmany Mreading Mvariance Mcovariance Mline Mformulas Mroot Mkind Mone Mother Msigns Mplace MleftOf MrightOf Mtype Msum Msign MsignAt Mproduct Mvalue Mslope Mexponent Mdrawn Mslopes Mfrom Mfactor Mthrown Mlength Mmodels Mopen Mat Mrows Mx) → va_S A s.heap H locs → lv_has ls 4 [(0, .ref (aM 0)), (1, .int v1), (2, .int v2), (3, .int v3)] → W p l e rmX7_contribution s m args below meth c H locs 0 0 Q (F0 m 20 ls [.ref (aM 0)]) := by
    intro  Mvalue Mslope Mslopes Mthrown h H locs ls hP hD hS hl
    unfold BX7_contribution_20 at h
    refine lv_iconst (v := 1) hx hb dX7_contribution_20 (by decide) ?_
    exact BH_21  _ _ _ _ _ h _ _ _ hP hD hS (lv_sub hl [0, 1, 2, 3] rfl)
  suffices main : ∀ (H : Heap) (locs : List Loc) (ls : Array Slot), va_P D vwCl (wM k aM Mestimate Munit Msort Mwidth Mmany Mreading Mvariance Mcovariance Mline Mformulas Mroot Mkind Mone Mother Msigns Mplace MleftOf MrightOf Mtype Msum Msign MsignAt Mproduct Mvalue Mslope Mexponent Mdrawn Mslopes Mfrom Mfactor Mthrown Mlength Mmodels Mopen Mat Mrows Mx) H → va_D A (wM k aM Mestimate Munit Msort Mwidth Mmany Mreading Mvariance Mcovariance Mline Mformulas Mroot Mkind Mone Mother Msigns Mplace MleftOf MrightOf Mtype Msum Msign MsignAt Mproduct Mvalue Mslope Mexponent Mdrawn Mslopes Mfrom Mfactor Mthrown Mlength Mmodels Mopen Mat Mrows Mx) → va_S A s.heap H locs → lv_has ls 4 [(0, .ref (aM 0)), (1, .int v1), (2, .int v2), (3, .int v3)] → W p l e rmX7_contribution s m args below meth c H locs 0 0 Q (F0 m 0 ls []) from main _ _ _ hP hD hS hl
  clear hP hD hS hl ls hAe
  intro H locs ls hP hD hS hl
  refine lv_aload_n hx hb dX7_contribution_0 rfl (lv_at hl 0 rfl) ?_
  refine lv_aload_n hx hb dX7_contribution_1 rfl (lv_at hl 0 rfl) ?_
  refine lv_iload_n hx hb dX7_contribution_2 rfl (lv_at hl 1 rfl) ?_
  obtain ⟨r1, hc1, h⟩ := bnd1_inv h
  have hFc := va_free (wc := (wM k aM Mestimate Munit Msort Mwidth Mmany Mreading Mvariance Mcovariance Mline Mformulas Mroot Mkind Mone Mother Msigns Mplace MleftOf MrightOf Mtype Msum Msign MsignAt Mproduct Mvalue Mslope Mexponent Mdrawn Mslopes Mfrom Mfactor Mthrown Mlength Mmodels Mopen Mat Mrows Mx)) hD hS hA [0, 1, 2, 3, 4, 5, 6, 7, 8, 9, 10, 11, 12, 13, 14, 15, 16, 17, 18, 19, 20, 21, 22, 23, 24, 25, 26, 27, 28, 29, 30] rfl
  refine xc_i (va_runV (As := [.int v1]) (rest := [.ref (aM 0)]) ⟨hx, hb, hml, hown, hts⟩ (met_X7_isModel l D k  aM H.size Mestimate Munit Msort Mwidth Mmany Mreading Mvariance Mcovariance Mline Mformulas Mroot Mkind Mone Mother Msigns Mplace MleftOf MrightOf Mtype Msum Msign MsignAt Mproduct Mvalue Mslope Mexponent Mdrawn Mslopes Mfrom Mfactor Mthrown Mlength Mmodels Mopen Mat Mrows Mx v1 r1 hc1) (cwV 1 hts gX7_contribution_X7_isModel rfl rfl rfl (by decide +kernel) ⟨Nat.le_of_ble_eq_true rfl, Nat.le_of_ble_eq_true rfl⟩) ⟨pw_blind, va_recv hK hP (ci := 7) (q0 := 0) rfl rfl, pw_start hP hK hD⟩ rfl rfl hl.1 rfl (lv_room (Nat.le_of_ble_eq_true rfl)) dX7_contribution_3 ⟨Nat.zero_le _, Nat.zero_le _⟩) hS hFc (fun H1 locs hP1 hD1 hk1 hS => ?_)
  obtain ⟨hP, hD⟩ := vj_all hFc hP1 hD1
  clear hP1 hD1 hk1 hFc
  generalize H1 = H at hP hS ⊢
  refine lv_if_eq (tgt := 20) hx hb dX7_contribution_6 (by decide) (fun c2 => ?_) (fun c2 => ?_)
  · replace h := sf_t c2 h
    exact BH_20  _ _ _ _ h _ _ _ hP hD hS (lv_sub hl [0, 1, 2, 3] rfl)
  · replace h := sf_f c2 h
    refine lv_iload_n hx hb dX7_contribution_9 rfl (lv_at hl 2 rfl) ?_
    obtain ⟨r10, hc10, h⟩ := bnd1_inv h
    have hPc := hP.sub (ws' := ([] : va_W)) [] rfl
    have hDc := hD.sub (ws' := ([] : va_W)) [] rfl rfl
    have hFc := va_free (wc := ([] : va_W)) hD hS hA [] rfl
    refine xc_i (va_runS (As := [.int v2]) (rest := [.ref (aM 0)]) ⟨hx, hb, hml, hown, hts⟩ (met_X7_isInput l D k  H.size v2 r10 hc10) (va_cwS 1 hts gX7_contribution_X7_isInput rfl rfl rfl (by decide +kernel) ⟨Nat.le_of_ble_eq_true rfl, Nat.le_of_ble_eq_true rfl⟩) ⟨pw_blind, pw_start hPc hK hDc⟩ rfl rfl hl.1 rfl (lv_room (Nat.le_of_ble_eq_true rfl)) dX7_contribution_10 ⟨Nat.zero_le _, Nat.zero_le _⟩) hS hFc (fun H1 locs hP1 hD1 hk1 hS => ?_)
    obtain ⟨hP, hD⟩ := vj (ws' := (wM k aM Mestimate Munit Msort Mwidth Mmany Mreading Mvariance Mcovariance Mline Mformulas Mroot Mkind Mone Mother Msigns Mplace MleftOf MrightOf Mtype Msum Msign MsignAt Mproduct Mvalue Mslope Mexponent Mdrawn Mslopes Mfrom Mfactor Mthrown Mlength Mmodels Mopen Mat Mrows Mx)) (w1 := ([] : va_W)) hP hD [] [0, 1, 2, 3, 4, 5, 6, 7, 8, 9, 10, 11, 12, 13, 14, 15, 16, 17, 18, 19, 20, 21, 22, 23, 24, 25, 26, 27, 28, 29, 30] [0, 1, 2, 3, 4, 5, 6, 7, 8, 9, 10, 11, 12, 13, 14, 15, 16, 17, 18, 19, 20, 21, 22, 23, 24, 25, 26, 27, 28, 29, 30] rfl rfl rfl rfl rfl hk1 hFc hP1 hD1
    clear hP1 hD1 hk1 hFc
    generalize H1 = H at hP hS ⊢
    refine lv_if_eq (tgt := 20) hx hb dX7_contribution_13 (by decide) (fun c11 => ?_) (fun c11 => ?_)
    · replace h := sf_t c11 h
      exact BH_20  _ _ _ _ h _ _ _ hP hD hS (lv_sub hl [0, 1, 2, 3] rfl)
    · replace h := sf_f c11 h
      refine lv_iconst (v := 0) hx hb dX7_contribution_16 (by decide) ?_
      refine lv_goto (tgt := 21) hx hb dX7_contribution_17 (by decide) ?_
      exact BH_21  _ _ _ _ _ h _ _ _ hP hD hS (lv_sub hl [0, 1, 2, 3] rfl)
def BX7_ranked_95 (Mestimate : Nat → Int32) (Mvariance : Nat → Int32) (Mformulas : Nat → Int32) (Mroot : Nat → Int32) (Mkind : Nat → Int32) (Mone : Nat → Int32) (Mother : Nat → Int32) (Mdrawn : Nat → Int32) (Mmodels : Int32) (v1 : Int32) (v2 : Int32) (K : Int32 → Int32 → Int32 → (Nat → Int64) → (Nat → Int64) → (Nat → Int64) → Int32 → Option (Int32 × (Nat → Int64) × (Nat → Int64) × (Nat → Int64) × Int32)) (E104 : Int32 → Int32 → (Nat → Int64) → (Nat → Int64) → (Nat → Int64) → Int32 → Option (Int32 × (Nat → Int64) × (Nat → Int64) × (Nat → Int64) × Int32)) (v3 : Int32) (v5 : Int32) (s0 : Int32) (s1 : Int32) (Mvalue : Nat → Int64) (Mslope : Nat → Int64) (Mslopes : Nat → Int64) (Mthrown : Int32) : Option (Int32 × (Nat → Int64) × (Nat → Int64) × (Nat → Int64) × Int32) := K v3 (s0 + s1) (v5 + 1) Mvalue Mslope Mslopes Mthrown
def BX7_ranked_90 (Mestimate : Nat → Int32) (Mvariance : Nat → Int32) (Mformulas : Nat → Int32) (Mroot : Nat → Int32) (Mkind : Nat → Int32) (Mone : Nat → Int32) (Mother : Nat → Int32) (Mdrawn : Nat → Int32) (Mmodels : Int32) (v1 : Int32) (v2 : Int32) (K : Int32 → Int32 → Int32 → (Nat → Int64) → (Nat → Int64) → (Nat → Int64) → Int32 → Option (Int32 × (Nat → Int64) × (Nat → Int64) × (Nat → Int64) × Int32)) (E104 : Int32 → Int32 → (Nat → Int64) → (Nat → Int64) → (Nat → Int64) → Int32 → Option (Int32 × (Nat → Int64) × (Nat → Int64) × (Nat → Int64) × Int32)) (v3 : Int32) (v5 : Int32) (s0 : Int32) (Mvalue : Nat → Int64) (Mslope : Nat → Int64) (Mslopes : Nat → Int64) (Mthrown : Int32) : Option (Int32 × (Nat → Int64) × (Nat → Int64) × (Nat → Int64) × Int32) := BX7_ranked_95 Mestimate Mvariance Mformulas Mroot Mkind Mone Mother Mdrawn Mmodels v1 v2 (K) E104 v3 v5 s0 1 Mvalue Mslope Mslopes Mthrown
def BX7_ranked_94 (Mestimate : Nat → Int32) (Mvariance : Nat → Int32) (Mformulas : Nat → Int32) (Mroot : Nat → Int32) (Mkind : Nat → Int32) (Mone : Nat → Int32) (Mother : Nat → Int32) (Mdrawn : Nat → Int32) (Mmodels : Int32) (v1 : Int32) (v2 : Int32) (K : Int32 → Int32 → Int32 → (Nat → Int64) → (Nat → Int64) → (Nat → Int64) → Int32 → Option (Int32 × (Nat → Int64) × (Nat → Int64) × (Nat → Int64) × Int32)) (E104 : Int32 → Int32 → (Nat → Int64) → (Nat → Int64) → (Nat → Int64) → Int32 → Option (Int32 × (Nat → Int64) × (Nat → Int64) × (Nat → Int64) × Int32)) (v3 : Int32) (v5 : Int32) (s0 : Int32) (Mvalue : Nat → Int64) (Mslope : Nat → Int64) (Mslopes : Nat → Int64) (Mthrown : Int32) : Option (Int32 × (Nat → Int64) × (Nat → Int64) × (Nat → Int64) × Int32) := BX7_ranked_95 Mestimate Mvariance Mformulas Mroot Mkind Mone Mother Mdrawn Mmodels v1 v2 (K) E104 v3 v5 s0 0 Mvalue Mslope Mslopes Mthrown
def LX7_ranked_45 (Mestimate : Nat → Int32) (Mvariance : Nat → Int32) (Mformulas : Nat → Int32) (Mroot : Nat → Int32) (Mkind : Nat → Int32) (Mone : Nat → Int32) (Mother : Nat → Int32) (Mdrawn : Nat → Int32) (Mmodels : Int32) (v1 : Int32) (v2 : Int32) (E104 : Int32 → Int32 → (Nat → Int64) → (Nat → Int64) → (Nat → Int64) → Int32 → Option (Int32 × (Nat → Int64) × (Nat → Int64) × (Nat → Int64) × Int32)) : Nat → Int32 → Int32 → Int32 → (Nat → Int64) → (Nat → Int64) → (Nat → Int64) → Int32 → Option (Int32 × (Nat → Int64) × (Nat → Int64) × (Nat → Int64) × Int32)
  | 0, _, _, _, _, _, _, _ => none
  | fuel + 1, v3, v4, v5, Mvalue, Mslope, Mslopes, Mthrown => (if 6 ≤ v5 then E104 v3 v4 Mvalue Mslope Mslopes Mthrown else bnd1 (fX7_part v5 Mvariance Mslopes) (fun r8 => bnd1 (fX7_part v3 Mvariance Mslopes) (fun r9 => (if 0 < (lg_cmp r8 r9) then BX7_ranked_90 Mestimate Mvariance Mformulas Mroot Mkind Mone Mother Mdrawn Mmodels v1 v2 (LX7_ranked_45 Mestimate Mvariance Mformulas Mroot Mkind Mone Mother Mdrawn Mmodels v1 v2 E104 fuel) E104 v3 v5 v4 Mvalue Mslope Mslopes Mthrown else bnd1 (fX7_part v5 Mvariance Mslopes) (fun r11 => bnd1 (fX7_part v3 Mvariance Mslopes) (fun r12 => (if (lg_cmp r11 r12) = 0 then (if v3 ≤ v5 then BX7_ranked_94 Mestimate Mvariance Mformulas Mroot Mkind Mone Mother Mdrawn Mmodels v1 v2 (LX7_ranked_45 Mestimate Mvariance Mformulas Mroot Mkind Mone Mother Mdrawn Mmodels v1 v2 E104 fuel) E104 v3 v5 v4 Mvalue Mslope Mslopes Mthrown else BX7_ranked_90 Mestimate Mvariance Mformulas Mroot Mkind Mone Mother Mdrawn Mmodels v1 v2 (LX7_ranked_45 Mestimate Mvariance Mformulas Mroot Mkind Mone Mother Mdrawn Mmodels v1 v2 E104 fuel) E104 v3 v5 v4 Mvalue Mslope Mslopes Mthrown) else BX7_ranked_94 Mestimate Mvariance Mformulas Mroot Mkind Mone Mother Mdrawn Mmodels v1 v2 (LX7_ranked_45 Mestimate Mvariance Mformulas Mroot Mkind Mone Mother Mdrawn Mmodels v1 v2 E104 fuel) E104 v3 v5 v4 Mvalue Mslope Mslopes Mthrown)))))))
def LX7_ranked_33 (Mestimate : Nat → Int32) (Mvariance : Nat → Int32) (Mformulas : Nat → Int32) (Mroot : Nat → Int32) (Mkind : Nat → Int32) (Mone : Nat → Int32) (Mother : Nat → Int32) (Mdrawn : Nat → Int32) (Mmodels : Int32) (v1 : Int32) (v2 : Int32) (E110 : Int32 → (Nat → Int64) → (Nat → Int64) → (Nat → Int64) → Int32 → Option (Int32 × (Nat → Int64) × (Nat → Int64) × (Nat → Int64) × Int32)) (E118 : (Nat → Int64) → (Nat → Int64) → (Nat → Int64) → Int32 → Option (Int32 × (Nat → Int64) × (Nat → Int64) × (Nat → Int64) × Int32)) : Nat → Int32 → (Nat → Int64) → (Nat → Int64) → (Nat → Int64) → Int32 → Option (Int32 × (Nat → Int64) × (Nat → Int64) × (Nat → Int64) × Int32)
  | 0, _, _, _, _, _ => none
  | fuel + 1, v3, Mvalue, Mslope, Mslopes, Mthrown => (if 6 ≤ v3 then E118 Mvalue Mslope Mslopes Mthrown else LX7_ranked_45 Mestimate Mvariance Mformulas Mroot Mkind Mone Mother Mdrawn Mmodels v1 v2 (fun (v3 : Int32) (v4 : Int32) (Mvalue : Nat → Int64) (Mslope : Nat → Int64) (Mslopes : Nat → Int64) (Mthrown : Int32) => (if v4 = v2 then E110 v3 Mvalue Mslope Mslopes Mthrown else LX7_ranked_33 Mestimate Mvariance Mformulas Mroot Mkind Mone Mother Mdrawn Mmodels v1 v2 E110 E118 fuel (v3 + 1) Mvalue Mslope Mslopes Mthrown)) 1000 v3 0 0 Mvalue Mslope Mslopes Mthrown)
def BX7_ranked_18 (Mestimate : Nat → Int32) (Mvariance : Nat → Int32) (Mformulas : Nat → Int32) (Mroot : Nat → Int32) (Mkind : Nat → Int32) (Mone : Nat → Int32) (Mother : Nat → Int32) (Mdrawn : Nat → Int32) (Mmodels : Int32) (v1 : Int32) (v2 : Int32)  (s1 : Int32) (Mvalue : Nat → Int64) (Mslope : Nat → Int64) (Mslopes : Nat → Int64) (Mthrown : Int32) : Option (Int32 × (Nat → Int64) × (Nat → Int64) × (Nat → Int64) × Int32) := bnd2 (fX7_holds s1 Mthrown) (fun r3 thrown_3 => (if r3 = 0 then some (0, Mvalue, Mslope, Mslopes, thrown_3) else bnd3 (fX7_laysSlopes v1 Mestimate Mformulas Mroot Mkind Mone Mother Mvalue Mslope Mdrawn Mslopes) (fun value_5 slope_5 slopes_5 => LX7_ranked_33 Mestimate Mvariance Mformulas Mroot Mkind Mone Mother Mdrawn Mmodels v1 v2 (fun (v3 : Int32) (Mvalue : Nat → Int64) (Mslope : Nat → Int64) (Mslopes : Nat → Int64) (Mthrown : Int32) => some (v3, Mvalue, Mslope, Mslopes, Mthrown)) (fun (Mvalue : Nat → Int64) (Mslope : Nat → Int64) (Mslopes : Nat → Int64) (Mthrown : Int32) => some ((-1), Mvalue, Mslope, Mslopes, Mthrown)) 1000 0 value_5 slope_5 slopes_5 thrown_3)))
def BX7_ranked_17 (Mestimate : Nat → Int32) (Mvariance : Nat → Int32) (Mformulas : Nat → Int32) (Mroot : Nat → Int32) (Mkind : Nat → Int32) (Mone : Nat → Int32) (Mother : Nat → Int32) (Mdrawn : Nat → Int32) (Mmodels : Int32) (v1 : Int32) (v2 : Int32)  (Mvalue : Nat → Int64) (Mslope : Nat → Int64) (Mslopes : Nat → Int64) (Mthrown : Int32) : Option (Int32 × (Nat → Int64) × (Nat → Int64) × (Nat → Int64) × Int32) := BX7_ranked_18 Mestimate Mvariance Mformulas Mroot Mkind Mone Mother Mdrawn Mmodels v1 v2 1 Mvalue Mslope Mslopes Mthrown
def fX7_ranked (v1 : Int32) (v2 : Int32) (Mestimate : Nat → Int32) (Mvariance : Nat → Int32) (Mformulas : Nat → Int32) (Mroot : Nat → Int32) (Mkind : Nat → Int32) (Mone : Nat → Int32) (Mother : Nat → Int32) (Mvalue : Nat → Int64) (Mslope : Nat → Int64) (Mdrawn : Nat → Int32) (Mslopes : Nat → Int64) (Mthrown : Int32) (Mmodels : Int32) : Option (Int32 × (Nat → Int64) × (Nat → Int64) × (Nat → Int64) × Int32) := bnd1 (fX7_isModel v1 Mmodels) (fun r1 => (if r1 = 0 then BX7_ranked_17 Mestimate Mvariance Mformulas Mroot Mkind Mone Mother Mdrawn Mmodels v1 v2 Mvalue Mslope Mslopes Mthrown else (if v2 < 0 then BX7_ranked_17 Mestimate Mvariance Mformulas Mroot Mkind Mone Mother Mdrawn Mmodels v1 v2 Mvalue Mslope Mslopes Mthrown else BX7_ranked_18 Mestimate Mvariance Mformulas Mroot Mkind Mone Mother Mdrawn Mmodels v1 v2 0 Mvalue Mslope Mslopes Mthrown)))
abbrev rmX7_ranked : Room := { frames := 3, cells := 0, slots := 0, locals := 76 }
set_option maxHeartbeats 4000000 in
set_option maxRecDepth 100000 in
theorem met_X7_ranked (l : Launch) (D : va_G) (k : Nat → ClassId)  (aM : Nat → Nat) (sz : Nat) (Mestimate : Nat → Int32) (Munit : Nat → Int32) (Msort : Nat → Int32) (Mwidth : Nat → Int32) (Mmany : Nat → Int32) (Mreading : Nat → Int32) (Mvariance : Nat → Int32) (Mcovariance : Nat → Int32) (Mline : Nat → Int32) (Mformulas : Nat → Int32) (Mroot : Nat → Int32) (Mkind : Nat → Int32) (Mone : Nat → Int32) (Mother : Nat → Int32) (Msigns : Nat → Int32) (Mplace : Nat → Int32) (MleftOf : Nat → Int32) (MrightOf : Nat → Int32) (Mtype : Nat → Int32) (Msum : Nat → Int32) (Msign : Nat → Int32) (MsignAt : Nat → Int32) (Mproduct : Nat → Int32) (Mvalue : Nat → Int64) (Mslope : Nat → Int64) (Mexponent : Nat → Int32) (Mdrawn : Nat → Int32) (Mslopes : Nat → Int64) (Mfrom : Nat → Int32) (Mfactor : Nat → Int32) (Mthrown : Int32) (Mlength : Int32) (Mmodels : Int32) (Mopen : Int32) (Mat : Int32) (Mrows : Int32) (Mx : Int32) (v1 : Int32) (v2 : Int32) (r : Int32) (RMvalue : Nat → Int64) (RMslope : Nat → Int64) (RMslopes : Nat → Int64) (RMthrown : Int32) (h : fX7_ranked v1 v2 Mestimate Mvariance Mformulas Mroot Mkind Mone Mother Mvalue Mslope Mdrawn Mslopes Mthrown Mmodels = some (r, RMvalue, RMslope, RMslopes, RMthrown)) : Met l yX7_ranked wsX7_ranked rmX7_ranked (va_Pc [.ref (aM 0), .int v1, .int v2] (PreW D k (wM k aM Mestimate Munit Msort Mwidth Mmany Mreading Mvariance Mcovariance Mline Mformulas Mroot Mkind Mone Mother Msigns Mplace MleftOf MrightOf Mtype Msum Msign MsignAt Mproduct Mvalue Mslope Mexponent Mdrawn Mslopes Mfrom Mfactor Mthrown Mlength Mmodels Mopen Mat Mrows Mx) sz)) (va_Qi (fun r9 (_ : Unit) => r9 = r) (fun _ t => PostW D k (va_A (wM k aM Mestimate Munit Msort Mwidth Mmany Mreading Mvariance Mcovariance Mline Mformulas Mroot Mkind Mone Mother Msigns Mplace MleftOf MrightOf Mtype Msum Msign MsignAt Mproduct Mvalue Mslope Mexponent Mdrawn Mslopes Mfrom Mfactor Mthrown Mlength Mmodels Mopen Mat Mrows Mx) sz) (wM k aM Mestimate Munit Msort Mwidth Mmany Mreading Mvariance Mcovariance Mline Mformulas Mroot Mkind Mone Mother Msigns Mplace MleftOf MrightOf Mtype Msum Msign MsignAt Mproduct RMvalue RMslope Mexponent Mdrawn RMslopes Mfrom Mfactor RMthrown Mlength Mmodels Mopen Mat Mrows Mx) t) (va_A (wM k aM Mestimate Munit Msort Mwidth Mmany Mreading Mvariance Mcovariance Mline Mformulas Mroot Mkind Mone Mother Msigns Mplace MleftOf MrightOf Mtype Msum Msign MsignAt Mproduct Mvalue Mslope Mexponent Mdrawn Mslopes Mfrom Mfactor Mthrown Mlength Mmodels Mopen Mat Mrows Mx) sz)) 0 0 (va_A (wM k aM Mestimate Munit Msort Mwidth Mmany Mreading Mvariance Mcovariance Mline Mformulas Mroot Mkind Mone Mother Msigns Mplace MleftOf MrightOf Mtype Msum Msign MsignAt Mproduct Mvalue Mslope Mexponent Mdrawn Mslopes Mfrom Mfactor Mthrown Mlength Mmodels Mopen Mat Mrows Mx) sz) := by
  refine Met.ofW (cc := cX7_ranked) (maxL := 6) (ret := (some .int)) (by decide) rfl ?_
  intro p e s m args below meth c s₁ B hml hv
  obtain ⟨hav, hsz, hP, hK, hD0⟩ := hv
  have hx := B.exec
  have hb := B.bytes
  have hr := B.returns
  have hts := atoms_spec (ws := wsX7_ranked) B.pre
  have hown : s.vm.findClass RX7 = some m.cls := findClass_of_methodNamed B.named
  have hlocks := B.notSynchronized
  subst hsz
  have hD := hD0.self (sz := s.heap.size)
  clear hD0
  generalize hAe : va_A (wM k aM Mestimate Munit Msort Mwidth Mmany Mreading Mvariance Mcovariance Mline Mformulas Mroot Mkind Mone Mother Msigns Mplace MleftOf MrightOf Mtype Msum Msign MsignAt Mproduct Mvalue Mslope Mexponent Mdrawn Mslopes Mfrom Mfactor Mthrown Mlength Mmodels Mopen Mat Mrows Mx) s.heap.size = A at hD ⊢
  have hA : ∀ q : Nat, s.heap.size ≤ q → A q := fun q h => by rw [← hAe]; exact Or.inr h
  have hS : va_S A s.heap s.heap [] := va_S.rf
  have hl := lv_entry ([.ref (aM 0), .int v1, .int v2]) (n := 6) (Nat.le_of_ble_eq_true rfl)
  rw [show entryFrame m args 6 = entryFrame m ([.ref (aM 0), .int v1, .int v2] : List Value).toArray 6 from by rw [hav], lg_entry_eq]
  generalize (lg_sl ([.ref (aM 0), .int v1, .int v2]) ++ List.replicate (6 - (lg_sl ([.ref (aM 0), .int v1, .int v2])).length) Slot.unset).toArray = ls at hl ⊢
  replace hl : lv_has ls 6 [(0, .ref (aM 0)), (1, .int v1), (2, .int v2)] := hl
  refine w_q (fun Q hQ => ?_)
  unfold fX7_ranked at h
  show W p l e rmX7_ranked s m args below meth c s.heap [] 0 0 Q (F0 m 0 ls [])
  have BH_95 : ∀ (K : Int32 → Int32 → Int32 → (Nat → Int64) → (Nat → Int64) → (Nat → Int64) → Int32 → Option (Int32 × (Nat → Int64) × (Nat → Int64) × (Nat → Int64) × Int32)) (hKK : ∀ (v3 : Int32) (v4 : Int32) (v5 : Int32) (Mvalue : Nat → Int64) (Mslope : Nat → Int64) (Mslopes : Nat → Int64) (Mthrown : Int32), K v3 v4 v5 Mvalue Mslope Mslopes Mthrown = some (r, RMvalue, RMslope, RMslopes, RMthrown) → ∀ (H : Heap) (locs : List Loc) (ls : Array Slot), va_P D vwCl (wM k aM Mestimate Munit Msort Mwidth Mmany Mreading Mvariance Mcovariance Mline Mformulas Mroot Mkind Mone Mother Msigns Mplace MleftOf MrightOf Mtype Msum Msign MsignAt Mproduct Mvalue Mslope Mexponent Mdrawn Mslopes Mfrom Mfactor Mthrown Mlength Mmodels Mopen Mat Mrows Mx) H → va_D A (wM k aM Mestimate Munit Msort Mwidth Mmany Mreading Mvariance Mcovariance Mline Mformulas Mroot Mkind Mone Mother Msigns Mplace MleftOf MrightOf Mtype Msum Msign MsignAt Mproduct Mvalue Mslope Mexponent Mdrawn Mslopes Mfrom Mfactor Mthrown Mlength Mmodels Mopen Mat Mrows Mx) → va_S A s.heap H locs → lv_has ls 6 [(0, .ref (aM 0)), (2, .int v2), (3, .int v3), (4, .int v4), (5, .int v5)] → W p l e rmX7_ranked s m args below meth c H locs 0 0 Q (F0 m 45 ls [])) (E104 : Int32 → Int32 → (Nat → Int64) → (Nat → Int64) → (Nat → Int64) → Int32 → Option (Int32 × (Nat → Int64) × (Nat → Int64) × (Nat → Int64) × Int32)) (hE104 : ∀ (v3 : Int32) (v4 : Int32) (Mvalue : Nat → Int64) (Mslope : Nat → Int64) (Mslopes : Nat → Int64) (Mthrown : Int32), E104 v3 v4 Mvalue Mslope Mslopes Mthrown = some (r, RMvalue, RMslope, RMslopes, RMthrown) → ∀ (H : Heap) (locs : List Loc) (ls : Array Slot), va_P D vwCl (wM k aM Mestimate Munit Msort Mwidth Mmany Mreading Mvariance Mcovariance Mline Mformulas Mroot Mkind Mone Mother Msigns Mplace MleftOf MrightOf Mtype Msum Msign MsignAt Mproduct Mvalue Mslope Mexponent Mdrawn Mslopes Mfrom Mfactor Mthrown Mlength Mmodels Mopen Mat Mrows Mx) H → va_D A (wM k aM Mestimate Munit Msort Mwidth Mmany Mreading Mvariance Mcovariance Mline Mformulas Mroot Mkind Mone Mother Msigns Mplace MleftOf MrightOf Mtype Msum Msign MsignAt Mproduct Mvalue Mslope Mexponent Mdrawn Mslopes Mfrom Mfactor Mthrown Mlength Mmodels Mopen Mat Mrows Mx) → va_S A s.heap H locs → lv_has ls 6 [(0, .ref (aM 0)), (2, .int v2), (3, .int v3), (4, .int v4)] → W p l e rmX7_ranked s m args below meth c H locs 0 0 Q (F0 m 104 ls [])) (v3 : Int32) (v5 : Int32) (s0 : Int32) (s1 : Int32) (Mvalue : Nat → Int64) (Mslope : Nat → Int64) (Mslopes : Nat → Int64) (Mthrown : Int32), BX7_ranked_95 Mestimate Mvariance Mformulas Mroot Mkind Mone Mother Mdrawn Mmodels v1 v2 K E104 v3 v5 s0 s1 Mvalue Mslope Mslopes Mthrown = some (r, RMvalue, RMslope, RMslopes, RMthrown) → ∀ (H : Heap) (locs : List Loc) (ls : Array Slot), va_P D vwCl (wM k aM Mestimate Munit Msort Mwidth Mmany Mreading Mvariance Mcovariance Mline Mformulas Mroot Mkind Mone Mother Msigns Mplace MleftOf MrightOf Mtype Msum Msign MsignAt Mproduct Mvalue Mslope Mexponent Mdrawn Mslopes Mfrom Mfactor Mthrown Mlength Mmodels Mopen Mat Mrows Mx) H → va_D A (wM k aM Mestimate Munit Msort Mwidth Mmany Mreading Mvariance Mcovariance Mline Mformulas Mroot Mkind Mone Mother Msigns Mplace MleftOf MrightOf Mtype Msum Msign MsignAt Mproduct Mvalue Mslope Mexponent Mdrawn Mslopes Mfrom Mfactor Mthrown Mlength Mmodels Mopen Mat Mrows Mx) → va_S A s.heap H locs → lv_has ls 6 [(0, .ref (aM 0)), (2, .int v2), (3, .int v3), (5, .int v5)] → W p l e rmX7_ranked s m args below meth c H locs 0 0 Q (F0 m 95 ls [.int s1, .int s0]) := by
    intro K hKK E104 hE104 v3 v5 s0 s1 Mvalue Mslope Mslopes Mthrown h H locs ls hP hD hS hl
    unfold BX7_ranked_95 at h
    refine lv_iadd hx hb dX7_ranked_95 ?_
    refine lv_istore (lv' := [(4, .int (s0 + s1)), (0, .ref (aM 0)), (2, .int v2), (3, .int v3), (5, .int v5)]) hx hb dX7_ranked_96 hl (by decide) rfl (fun ls hl => ?_)
    refine lv_iinc (v := v5 + 1) (lv' := [(5, .int (v5 + 1)), (4, .int (s0 + s1)), (0, .ref (aM 0)), (2, .int v2), (3, .int v3)]) hx hb dX7_ranked_98 hl (k := 4) rfl rfl (by decide) rfl (fun ls hl => ?_)
    refine lv_goto (tgt := 45) hx hb dX7_ranked_101 (by decide) ?_
    exact hKK _ _ _ _ _ _ _ h _ _ _ hP hD hS (lv_sub hl [2, 3, 4, 1, 0] rfl)
  have BH_90 : ∀ (K : Int32 → Int32 → Int32 → (Nat → Int64) → (Nat → Int64) → (Nat → Int64) → Int32 → Option (Int32 × (Nat → Int64) × (Nat → Int64) × (Nat → Int64) × Int32)) (hKK : ∀ (v3 : Int32) (v4 : Int32) (v5 : Int32) (Mvalue : Nat → Int64) (Mslope : Nat → Int64) (Mslopes : Nat → Int64) (Mthrown : Int32), K v3 v4 v5 Mvalue Mslope Mslopes Mthrown = some (r, RMvalue, RMslope, RMslopes, RMthrown) → ∀ (H : Heap) (locs : List Loc) (ls : Array Slot), va_P D vwCl (wM k aM Mestimate Munit Msort Mwidth Mmany Mreading Mvariance Mcovariance Mline Mformulas Mroot Mkind Mone Mother Msigns Mplace MleftOf MrightOf Mtype Msum Msign MsignAt Mproduct Mvalue Mslope Mexponent Mdrawn Mslopes Mfrom Mfactor Mthrown Mlength Mmodels Mopen Mat Mrows Mx) H → va_D A (wM k aM Mestimate Munit Msort Mwidth Mmany Mreading Mvariance Mcovariance Mline Mformulas Mroot Mkind Mone Mother Msigns Mplace MleftOf MrightOf Mtype Msum Msign MsignAt Mproduct Mvalue Mslope Mexponent Mdrawn Mslopes Mfrom Mfactor Mthrown Mlength Mmodels Mopen Mat Mrows Mx) → va_S A s.heap H locs → lv_has ls 6 [(0, .ref (aM 0)), (2, .int v2), (3, .int v3), (4, .int v4), (5, .int v5)] → W p l e rmX7_ranked s m args below meth c H locs 0 0 Q (F0 m 45 ls [])) (E104 : Int32 → Int32 → (Nat → Int64) → (Nat → Int64) → (Nat → Int64) → Int32 → Option (Int32 × (Nat → Int64) × (Nat → Int64) × (Nat → Int64) × Int32)) (hE104 : ∀ (v3 : Int32) (v4 : Int32) (Mvalue : Nat → Int64) (Mslope : Nat → Int64) (Mslopes : Nat → Int64) (Mthrown : Int32), E104 v3 v4 Mvalue Mslope Mslopes Mthrown = some (r, RMvalue, RMslope, RMslopes, RMthrown) → ∀ (H : Heap) (locs : List Loc) (ls : Array Slot), va_P D vwCl (wM k aM Mestimate Munit Msort Mwidth Mmany Mreading Mvariance Mcovariance Mline Mformulas Mroot Mkind Mone Mother Msigns Mplace MleftOf MrightOf Mtype Msum Msign MsignAt Mproduct Mvalue Mslope Mexponent Mdrawn Mslopes Mfrom Mfactor Mthrown Mlength Mmodels Mopen Mat Mrows Mx) H → va_D A (wM k aM Mestimate Munit Msort Mwidth Mmany Mreading Mvariance Mcovariance Mline Mformulas Mroot Mkind Mone Mother Msigns Mplace MleftOf MrightOf Mtype Msum Msign MsignAt Mproduct Mvalue Mslope Mexponent Mdrawn Mslopes Mfrom Mfactor Mthrown Mlength Mmodels Mopen Mat Mrows Mx) → va_S A s.heap H locs → lv_has ls 6 [(0, .ref (aM 0)), (2, .int v2), (3, .int v3), (4, .int v4)] → W p l e rmX7_ranked s m args below meth c H locs 0 0 Q (F0 m 104 ls [])) (v3 : Int32) (v5 : Int32) (s0 : Int32) (Mvalue : Nat → Int64) (Mslope : Nat → Int64) (Mslopes : Nat → Int64) (Mthrown : Int32), BX7_ranked_90 Mestimate Mvariance Mformulas Mroot Mkind Mone Mother Mdrawn Mmodels v1 v2 K E104 v3 v5 s0 Mvalue Mslope Mslopes Mthrown = some (r, RMvalue, RMslope, RMslopes, RMthrown) → ∀ (H : Heap) (locs : List Loc) (ls : Array Slot), va_P D vwCl (wM k aM Mestimate Munit Msort Mwidth Mmany Mreading Mvariance Mcovariance Mline Mformulas Mroot Mkind Mone Mother Msigns Mplace MleftOf MrightOf Mtype Msum Msign MsignAt Mproduct Mvalue Mslope Mexponent Mdrawn Mslopes Mfrom Mfactor Mthrown Mlength Mmodels Mopen Mat Mrows Mx) H → va_D A (wM k aM Mestimate Munit Msort Mwidth Mmany Mreading Mvariance Mcovariance Mline Mformulas Mroot Mkind Mone Mother Msigns Mplace MleftOf MrightOf Mtype Msum Msign MsignAt Mproduct Mvalue Mslope Mexponent Mdrawn Mslopes Mfrom Mfactor Mthrown Mlength Mmodels Mopen Mat Mrows Mx) → va_S A s.heap H locs → lv_has ls 6 [(0, .ref (aM 0)), (2, .int v2), (3, .int v3), (5, .int v5)] → W p l e rmX7_ranked s m args below meth c H locs 0 0 Q (F0 m 90 ls [.int s0]) := by
    intro K hKK E104 hE104 v3 v5 s0 Mvalue Mslope Mslopes Mthrown h H locs ls hP hD hS hl
    unfold BX7_ranked_90 at h
    refine lv_iconst (v := 1) hx hb dX7_ranked_90 (by decide) ?_
    refine lv_goto (tgt := 95) hx hb dX7_ranked_91 (by decide) ?_
    exact BH_95 _ hKK _ hE104 _ _ _ _ _ _ _ _ h _ _ _ hP hD hS (lv_sub hl [0, 1, 2, 3] rfl)
  have BH_94 : ∀ (K : Int32 → Int32 → Int32 → (Nat → Int64) → (Nat → Int64) → (Nat → Int64) → Int32 → Option (Int32 × (Nat → Int64) × (Nat → Int64) × (Nat → Int64) × Int32)) (hKK : ∀ (v3 : Int32) (v4 : Int32) (v5 : Int32) (Mvalue : Nat → Int64) (Mslope : Nat → Int64) (Mslopes : Nat → Int64) (Mthrown : Int32), K v3 v4 v5 Mvalue Mslope Mslopes Mthrown = some (r, RMvalue, RMslope, RMslopes, RMthrown) → ∀ (H : Heap) (locs : List Loc) (ls : Array Slot), va_P D vwCl (wM k aM Mestimate Munit Msort Mwidth Mmany Mreading Mvariance Mcovariance Mline Mformulas Mroot Mkind Mone Mother Msigns Mplace MleftOf MrightOf Mtype Msum Msign MsignAt Mproduct Mvalue Mslope Mexponent Mdrawn Mslopes Mfrom Mfactor Mthrown Mlength Mmodels Mopen Mat Mrows Mx) H → va_D A (wM k aM Mestimate Munit Msort Mwidth Mmany Mreading Mvariance Mcovariance Mline Mformulas Mroot Mkind Mone Mother Msigns Mplace MleftOf MrightOf Mtype Msum Msign MsignAt Mproduct Mvalue Mslope Mexponent Mdrawn Mslopes Mfrom Mfactor Mthrown Mlength Mmodels Mopen Mat Mrows Mx) → va_S A s.heap H locs → lv_has ls 6 [(0, .ref (aM 0)), (2, .int v2), (3, .int v3), (4, .int v4), (5, .int v5)] → W p l e rmX7_ranked s m args below meth c H locs 0 0 Q (F0 m 45 ls [])) (E104 : Int32 → Int32 → (Nat → Int64) → (Nat → Int64) → (Nat → Int64) → Int32 → Option (Int32 × (Nat → Int64) × (Nat → Int64) × (Nat → Int64) × Int32)) (hE104 : ∀ (v3 : Int32) (v4 : Int32) (Mvalue : Nat → Int64) (Mslope : Nat → Int64) (Mslopes : Nat → Int64) (Mthrown : Int32), E104 v3 v4 Mvalue Mslope Mslopes Mthrown = some (r, RMvalue, RMslope, RMslopes, RMthrown) → ∀ (H : Heap) (locs : List Loc) (ls : Array Slot), va_P D vwCl (wM k aM Mestimate Munit Msort Mwidth Mmany Mreading Mvariance Mcovariance Mline Mformulas Mroot Mkind Mone Mother Msigns Mplace MleftOf MrightOf Mtype Msum Msign MsignAt Mproduct Mvalue Mslope Mexponent Mdrawn Mslopes Mfrom Mfactor Mthrown Mlength Mmodels Mopen Mat Mrows Mx) H → va_D A (wM k aM Mestimate Munit Msort Mwidth Mmany Mreading Mvariance Mcovariance Mline Mformulas Mroot Mkind Mone Mother Msigns Mplace MleftOf MrightOf Mtype Msum Msign MsignAt Mproduct Mvalue Mslope Mexponent Mdrawn Mslopes Mfrom Mfactor Mthrown Mlength Mmodels Mopen Mat Mrows Mx) → va_S A s.heap H locs → lv_has ls 6 [(0, .ref (aM 0)), (2, .int v2), (3, .int v3), (4, .int v4)] → W p l e rmX7_ranked s m args below meth c H locs 0 0 Q (F0 m 104 ls [])) (v3 : Int32) (v5 : Int32) (s0 : Int32) (Mvalue : Nat → Int64) (Mslope : Nat → Int64) (Mslopes : Nat → Int64) (Mthrown : Int32), BX7_ranked_94 Mestimate Mvariance Mformulas Mroot Mkind Mone Mother Mdrawn Mmodels v1 v2 K E104 v3 v5 s0 Mvalue Mslope Mslopes Mthrown = some (r, RMvalue, RMslope, RMslopes, RMthrown) → ∀ (H : Heap) (locs : List Loc) (ls : Array Slot), va_P D vwCl (wM k aM Mestimate Munit Msort Mwidth Mmany Mreading Mvariance Mcovariance Mline Mformulas Mroot Mkind Mone Mother Msigns Mplace MleftOf MrightOf Mtype Msum Msign MsignAt Mproduct Mvalue Mslope Mexponent Mdrawn Mslopes Mfrom Mfactor Mthrown Mlength Mmodels Mopen Mat Mrows Mx) H → va_D A (wM k aM Mestimate Munit Msort Mwidth Mmany Mreading Mvariance Mcovariance Mline Mformulas Mroot Mkind Mone Mother Msigns Mplace MleftOf MrightOf Mtype Msum Msign MsignAt Mproduct Mvalue Mslope Mexponent Mdrawn Mslopes Mfrom Mfactor Mthrown Mlength Mmodels Mopen Mat Mrows Mx) → va_S A s.heap H locs → lv_has ls 6 [(0, .ref (aM 0)), (2, .int v2), (3, .int v3), (5, .int v5)] → W p l e rmX7_ranked s m args below meth c H locs 0 0 Q (F0 m 94 ls [.int s0]) := by
    intro K hKK E104 hE104 v3 v5 s0 Mvalue Mslope Mslopes Mthrown h H locs ls hP hD hS hl
    unfold BX7_ranked_94 at h
    refine lv_iconst (v := 0) hx hb dX7_ranked_94 (by decide) ?_
    exact BH_95 _ hKK _ hE104 _ _ _ _ _ _ _ _ h _ _ _ hP hD hS (lv_sub hl [0, 1, 2, 3] rfl)
  have LH_45 : ∀ (E104 : Int32 → Int32 → (Nat → Int64) → (Nat → Int64) → (Nat → Int64) → Int32 → Option (Int32 × (Nat → Int64) × (Nat → Int64) × (Nat → Int64) × Int32)) (hE104 : ∀ (v3 : Int32) (v4 : Int32) (Mvalue : Nat → Int64) (Mslope : Nat → Int64) (Mslopes : Nat → Int64) (Mthrown : Int32), E104 v3 v4 Mvalue Mslope Mslopes Mthrown = some (r, RMvalue, RMslope, RMslopes, RMthrown) → ∀ (H : Heap) (locs : List Loc) (ls : Array Slot), va_P D vwCl (wM k aM Mestimate Munit Msort Mwidth Mmany Mreading Mvariance Mcovariance Mline Mformulas Mroot Mkind Mone Mother Msigns Mplace MleftOf MrightOf Mtype Msum Msign MsignAt Mproduct Mvalue Mslope Mexponent Mdrawn Mslopes Mfrom Mfactor Mthrown Mlength Mmodels Mopen Mat Mrows Mx) H → va_D A (wM k aM Mestimate Munit Msort Mwidth Mmany Mreading Mvariance Mcovariance Mline Mformulas Mroot Mkind Mone Mother Msigns Mplace MleftOf MrightOf Mtype Msum Msign MsignAt Mproduct Mvalue Mslope Mexponent Mdrawn Mslopes Mfrom Mfactor Mthrown Mlength Mmodels Mopen Mat Mrows Mx) → va_S A s.heap H locs → lv_has ls 6 [(0, .ref (aM 0)), (2, .int v2), (3, .int v3), (4, .int v4)] → W p l e rmX7_ranked s m args below meth c H locs 0 0 Q (F0 m 104 ls [])) (n : Nat) (v3 : Int32) (v4 : Int32) (v5 : Int32) (Mvalue : Nat → Int64) (Mslope : Nat → Int64) (Mslopes : Nat → Int64) (Mthrown : Int32), LX7_ranked_45 Mestimate Mvariance Mformulas Mroot Mkind Mone Mother Mdrawn Mmodels v1 v2 E104 n v3 v4 v5 Mvalue Mslope Mslopes Mthrown = some (r, RMvalue, RMslope, RMslopes, RMthrown) → ∀ (H : Heap) (locs : List Loc) (ls : Array Slot), va_P D vwCl (wM k aM Mestimate Munit Msort Mwidth Mmany Mreading Mvariance Mcovariance Mline Mformulas Mroot Mkind Mone Mother Msigns Mplace MleftOf MrightOf Mtype Msum Msign MsignAt Mproduct Mvalue Mslope Mexponent Mdrawn Mslopes Mfrom Mfactor Mthrown Mlength Mmodels Mopen Mat Mrows Mx) H → va_D A (wM k aM Mestimate Munit Msort Mwidth Mmany Mreading Mvariance Mcovariance Mline Mformulas Mroot Mkind Mone Mother Msigns Mplace MleftOf MrightOf Mtype Msum Msign MsignAt Mproduct Mvalue Mslope Mexponent Mdrawn Mslopes Mfrom Mfactor Mthrown Mlength Mmodels Mopen Mat Mrows Mx) → va_S A s.heap H locs → lv_has ls 6 [(0, .ref (aM 0)), (2, .int v2), (3, .int v3), (4, .int v4), (5, .int v5)] → W p l e rmX7_ranked s m args below meth c H locs 0 0 Q (F0 m 45 ls []) := by
    intro E104 hE104 n
    induction n with
    | zero => intro v3 v4 v5 Mvalue Mslope Mslopes Mthrown h; simp [LX7_ranked_45] at h
    | succ n ih =>
    intro v3 v4 v5 Mvalue Mslope Mslopes Mthrown h H locs ls hP hD hS hl
    rw [LX7_ranked_45] at h
    refine lv_iload hx hb dX7_ranked_45 (lv_at hl 4 rfl) ?_
    refine lv_bipush (v := 6) hx hb dX7_ranked_47 (by decide) ?_
    refine lv_icmp_ge (tgt := 104) hx hb dX7_ranked_49 (by decide) (fun c7 => ?_) (fun c7 => ?_)
    · replace h := sf_t c7 h
      exact hE104 _ _ _ _ _ _ h _ _ _ hP hD hS (lv_sub hl [0, 1, 2, 3] rfl)
    · replace h := sf_f c7 h
      refine lv_iload hx hb dX7_ranked_52 (lv_at hl 3 rfl) ?_
      refine lv_aload_n hx hb dX7_ranked_54 rfl (lv_at hl 0 rfl) ?_
      refine lv_iload hx hb dX7_ranked_55 (lv_at hl 4 rfl) ?_
      obtain ⟨r8, hc8, h⟩ := bnd1_inv h
      have hFc := va_free (wc := (wM k aM Mestimate Munit Msort Mwidth Mmany Mreading Mvariance Mcovariance Mline Mformulas Mroot Mkind Mone Mother Msigns Mplace MleftOf MrightOf Mtype Msum Msign MsignAt Mproduct Mvalue Mslope Mexponent Mdrawn Mslopes Mfrom Mfactor Mthrown Mlength Mmodels Mopen Mat Mrows Mx)) hD hS hA [0, 1, 2, 3, 4, 5, 6, 7, 8, 9, 10, 11, 12, 13, 14, 15, 16, 17, 18, 19, 20, 21, 22, 23, 24, 25, 26, 27, 28, 29, 30] rfl
      refine xc_l (va_runV (As := [.int v5]) (rest := [.int v4]) ⟨hx, hb, hml, hown, hts⟩ (met_X7_part l D k  aM H.size Mestimate Munit Msort Mwidth Mmany Mreading Mvariance Mcovariance Mline Mformulas Mroot Mkind Mone Mother Msigns Mplace MleftOf MrightOf Mtype Msum Msign MsignAt Mproduct Mvalue Mslope Mexponent Mdrawn Mslopes Mfrom Mfactor Mthrown Mlength Mmodels Mopen Mat Mrows Mx v5 r8 hc8) (cwV 1 hts gX7_ranked_X7_part rfl rfl rfl (by decide +kernel) ⟨Nat.le_of_ble_eq_true rfl, Nat.le_of_ble_eq_true rfl⟩) ⟨pw_blind, va_recv hK hP (ci := 7) (q0 := 0) rfl rfl, pw_start hP hK hD⟩ rfl rfl hl.1 rfl (lv_room (Nat.le_of_ble_eq_true rfl)) dX7_ranked_57 ⟨Nat.zero_le _, Nat.zero_le _⟩) hS hFc (fun H1 locs hP1 hD1 hk1 hS => ?_)
      obtain ⟨hP, hD⟩ := vj_all hFc hP1 hD1
      clear hP1 hD1 hk1 hFc
      generalize H1 = H at hP hS ⊢
      refine lv_aload_n hx hb dX7_ranked_60 rfl (lv_at hl 0 rfl) ?_
      refine lv_iload_n hx hb dX7_ranked_61 rfl (lv_at hl 2 rfl) ?_
      obtain ⟨r9, hc9, h⟩ := bnd1_inv h
      have hFc := va_free (wc := (wM k aM Mestimate Munit Msort Mwidth Mmany Mreading Mvariance Mcovariance Mline Mformulas Mroot Mkind Mone Mother Msigns Mplace MleftOf MrightOf Mtype Msum Msign MsignAt Mproduct Mvalue Mslope Mexponent Mdrawn Mslopes Mfrom Mfactor Mthrown Mlength Mmodels Mopen Mat Mrows Mx)) hD hS hA [0, 1, 2, 3, 4, 5, 6, 7, 8, 9, 10, 11, 12, 13, 14, 15, 16, 17, 18, 19, 20, 21, 22, 23, 24, 25, 26, 27, 28, 29, 30] rfl
      refine xc_l (va_runV (As := [.int v3]) (rest := [.long r8, .int v4]) ⟨hx, hb, hml, hown, hts⟩ (met_X7_part l D k  aM H.size Mestimate Munit Msort Mwidth Mmany Mreading Mvariance Mcovariance Mline Mformulas Mroot Mkind Mone Mother Msigns Mplace MleftOf MrightOf Mtype Msum Msign MsignAt Mproduct Mvalue Mslope Mexponent Mdrawn Mslopes Mfrom Mfactor Mthrown Mlength Mmodels Mopen Mat Mrows Mx v3 r9 hc9) (cwV 1 hts gX7_ranked_X7_part rfl rfl rfl (by decide +kernel) ⟨Nat.le_of_ble_eq_true rfl, Nat.le_of_ble_eq_true rfl⟩) ⟨pw_blind, va_recv hK hP (ci := 7) (q0 := 0) rfl rfl, pw_start hP hK hD⟩ rfl rfl hl.1 rfl (lv_room (Nat.le_of_ble_eq_true rfl)) dX7_ranked_62 ⟨Nat.zero_le _, Nat.zero_le _⟩) hS hFc (fun H1 locs hP1 hD1 hk1 hS => ?_)
      obtain ⟨hP, hD⟩ := vj_all hFc hP1 hD1
      clear hP1 hD1 hk1 hFc
      generalize H1 = H at hP hS ⊢
      refine W.lcmp hx hb dX7_ranked_65 ?_
      refine lv_if_gt (tgt := 90) hx hb dX7_ranked_66 (by decide) (fun c10 => ?_) (fun c10 => ?_)
      · replace h := sf_t c10 h
        exact BH_90 _ ih _ hE104 _ _ _ _ _ _ _ h _ _ _ hP hD hS (lv_sub hl [0, 1, 2, 4] rfl)
      · replace h := sf_f c10 h
        refine lv_aload_n hx hb dX7_ranked_69 rfl (lv_at hl 0 rfl) ?_
        refine lv_iload hx hb dX7_ranked_70 (lv_at hl 4 rfl) ?_
        obtain ⟨r11, hc11, h⟩ := bnd1_inv h
        have hFc := va_free (wc := (wM k aM Mestimate Munit Msort Mwidth Mmany Mreading Mvariance Mcovariance Mline Mformulas Mroot Mkind Mone Mother Msigns Mplace MleftOf MrightOf Mtype Msum Msign MsignAt Mproduct Mvalue Mslope Mexponent Mdrawn Mslopes Mfrom Mfactor Mthrown Mlength Mmodels Mopen Mat Mrows Mx)) hD hS hA [0, 1, 2, 3, 4, 5, 6, 7, 8, 9, 10, 11, 12, 13, 14, 15, 16, 17, 18, 19, 20, 21, 22, 23, 24, 25, 26, 27, 28, 29, 30] rfl
        refine xc_l (va_runV (As := [.int v5]) (rest := [.int v4]) ⟨hx, hb, hml, hown, hts⟩ (met_X7_part l D k  aM H.size Mestimate Munit Msort Mwidth Mmany Mreading Mvariance Mcovariance Mline Mformulas Mroot Mkind Mone Mother Msigns Mplace MleftOf MrightOf Mtype Msum Msign MsignAt Mproduct Mvalue Mslope Mexponent Mdrawn Mslopes Mfrom Mfactor Mthrown Mlength Mmodels Mopen Mat Mrows Mx v5 r11 hc11) (cwV 1 hts gX7_ranked_X7_part rfl rfl rfl (by decide +kernel) ⟨Nat.le_of_ble_eq_true rfl, Nat.le_of_ble_eq_true rfl⟩) ⟨pw_blind, va_recv hK hP (ci := 7) (q0 := 0) rfl rfl, pw_start hP hK hD⟩ rfl rfl hl.1 rfl (lv_room (Nat.le_of_ble_eq_true rfl)) dX7_ranked_72 ⟨Nat.zero_le _, Nat.zero_le _⟩) hS hFc (fun H1 locs hP1 hD1 hk1 hS => ?_)
        obtain ⟨hP, hD⟩ := vj_all hFc hP1 hD1
        clear hP1 hD1 hk1 hFc
        generalize H1 = H at hP hS ⊢
        refine lv_aload_n hx hb dX7_ranked_75 rfl (lv_at hl 0 rfl) ?_
        refine lv_iload_n hx hb dX7_ranked_76 rfl (lv_at hl 2 rfl) ?_
        obtain ⟨r12, hc12, h⟩ := bnd1_inv h
        have hFc := va_free (wc := (wM k aM Mestimate Munit Msort Mwidth Mmany Mreading Mvariance Mcovariance Mline Mformulas Mroot Mkind Mone Mother Msigns Mplace MleftOf MrightOf Mtype Msum Msign MsignAt Mproduct Mvalue Mslope Mexponent Mdrawn Mslopes Mfrom Mfactor Mthrown Mlength Mmodels Mopen Mat Mrows Mx)) hD hS hA [0, 1, 2, 3, 4, 5, 6, 7, 8, 9, 10, 11, 12, 13, 14, 15, 16, 17, 18, 19, 20, 21, 22, 23, 24, 25, 26, 27, 28, 29, 30] rfl
        refine xc_l (va_runV (As := [.int v3]) (rest := [.long r11, .int v4]) ⟨hx, hb, hml, hown, hts⟩ (met_X7_part l D k  aM H.size Mestimate Munit Msort Mwidth Mmany Mreading Mvariance Mcovariance Mline Mformulas Mroot Mkind Mone Mother Msigns Mplace MleftOf MrightOf Mtype Msum Msign MsignAt Mproduct Mvalue Mslope Mexponent Mdrawn Mslopes Mfrom Mfactor Mthrown Mlength Mmodels Mopen Mat Mrows Mx v3 r12 hc12) (cwV 1 hts gX7_ranked_X7_part rfl rfl rfl (by decide +kernel) ⟨Nat.le_of_ble_eq_true rfl, Nat.le_of_ble_eq_true rfl⟩) ⟨pw_blind, va_recv hK hP (ci := 7) (q0 := 0) rfl rfl, pw_start hP hK hD⟩ rfl rfl hl.1 rfl (lv_room (Nat.le_of_ble_eq_true rfl)) dX7_ranked_77 ⟨Nat.zero_le _, Nat.zero_le _⟩) hS hFc (fun H1 locs hP1 hD1 hk1 hS => ?_)
        obtain ⟨hP, hD⟩ := vj_all hFc hP1 hD1
        clear hP1 hD1 hk1 hFc
        generalize H1 = H at hP hS ⊢
        refine W.lcmp hx hb dX7_ranked_80 ?_
        refine lv_if_ne (tgt := 94) hx hb dX7_ranked_81 (by decide) (fun c13 => ?_) (fun c13 => ?_)
        · replace h := sf_f c13 h
          exact BH_94 _ ih _ hE104 _ _ _ _ _ _ _ h _ _ _ hP hD hS (lv_sub hl [0, 1, 2, 4] rfl)
        · replace h := sf_t c13 h
          refine lv_iload hx hb dX7_ranked_84 (lv_at hl 4 rfl) ?_
          refine lv_iload_n hx hb dX7_ranked_86 rfl (lv_at hl 2 rfl) ?_
          refine lv_icmp_ge (tgt := 94) hx hb dX7_ranked_87 (by decide) (fun c14 => ?_) (fun c14 => ?_)
          · replace h := sf_t c14 h
            exact BH_94 _ ih _ hE104 _ _ _ _ _ _ _ h _ _ _ hP hD hS (lv_sub hl [0, 1, 2, 4] rfl)
          · replace h := sf_f c14 h
            exact BH_90 _ ih _ hE104 _ _ _ _ _ _ _ h _ _ _ hP hD hS (lv_sub hl [0, 1, 2, 4] rfl)
  have LH_33 : ∀ (E110 : Int32 → (Nat → Int64) → (Nat → Int64) → (Nat → Int64) → Int32 → Option (Int32 × (Nat → Int64) × (Nat → Int64) × (Nat → Int64) × Int32)) (hE110 : ∀ (v3 : Int32) (Mvalue : Nat → Int64) (Mslope : Nat → Int64) (Mslopes : Nat → Int64) (Mthrown : Int32), E110 v3 Mvalue Mslope Mslopes Mthrown = some (r, RMvalue, RMslope, RMslopes, RMthrown) → ∀ (H : Heap) (locs : List Loc) (ls : Array Slot), va_P D vwCl (wM k aM Mestimate Munit Msort Mwidth Mmany Mreading Mvariance Mcovariance Mline Mformulas Mroot Mkind Mone Mother Msigns Mplace MleftOf MrightOf Mtype Msum Msign MsignAt Mproduct Mvalue Mslope Mexponent Mdrawn Mslopes Mfrom Mfactor Mthrown Mlength Mmodels Mopen Mat Mrows Mx) H → va_D A (wM k aM Mestimate Munit Msort Mwidth Mmany Mreading Mvariance Mcovariance Mline Mformulas Mroot Mkind Mone Mother Msigns Mplace MleftOf MrightOf Mtype Msum Msign MsignAt Mproduct Mvalue Mslope Mexponent Mdrawn Mslopes Mfrom Mfactor Mthrown Mlength Mmodels Mopen Mat Mrows Mx) → va_S A s.heap H locs → lv_has ls 6 [(3, .int v3)] → W p l e rmX7_ranked s m args below meth c H locs 0 0 Q (F0 m 110 ls [])) (E118 : (Nat → Int64) → (Nat → Int64) → (Nat → Int64) → Int32 → Option (Int32 × (Nat → Int64) × (Nat → Int64) × (Nat → Int64) × Int32)) (hE118 : ∀ (Mvalue : Nat → Int64) (Mslope : Nat → Int64) (Mslopes : Nat → Int64) (Mthrown : Int32), E118 Mvalue Mslope Mslopes Mthrown = some (r, RMvalue, RMslope, RMslopes, RMthrown) → ∀ (H : Heap) (locs : List Loc) (ls : Array Slot), va_P D vwCl (wM k aM Mestimate Munit Msort Mwidth Mmany Mreading Mvariance Mcovariance Mline Mformulas Mroot Mkind Mone Mother Msigns Mplace MleftOf MrightOf Mtype Msum Msign MsignAt Mproduct Mvalue Mslope Mexponent Mdrawn Mslopes Mfrom Mfactor Mthrown Mlength Mmodels Mopen Mat Mrows Mx) H → va_D A (wM k aM Mestimate Munit Msort Mwidth Mmany Mreading Mvariance Mcovariance Mline Mformulas Mroot Mkind Mone Mother Msigns Mplace MleftOf MrightOf Mtype Msum Msign MsignAt Mproduct Mvalue Mslope Mexponent Mdrawn Mslopes Mfrom Mfactor Mthrown Mlength Mmodels Mopen Mat Mrows Mx) → va_S A s.heap H locs → lv_has ls 6 [] → W p l e rmX7_ranked s m args below meth c H locs 0 0 Q (F0 m 118 ls [])) (n : Nat) (v3 : Int32) (Mvalue : Nat → Int64) (Mslope : Nat → Int64) (Mslopes : Nat → Int64) (Mthrown : Int32), LX7_ranked_33 Mestimate Mvariance Mformulas Mroot Mkind Mone Mother Mdrawn Mmodels v1 v2 E110 E118 n v3 Mvalue Mslope Mslopes Mthrown = some (r, RMvalue, RMslope, RMslopes, RMthrown) → ∀ (H : Heap) (locs : List Loc) (ls : Array Slot), va_P D vwCl (wM k aM Mestimate Munit Msort Mwidth Mmany Mreading Mvariance Mcovariance Mline Mformulas Mroot Mkind Mone Mother Msigns Mplace MleftOf MrightOf Mtype Msum Msign MsignAt Mproduct Mvalue Mslope Mexponent Mdrawn Mslopes Mfrom Mfactor Mthrown Mlength Mmodels Mopen Mat Mrows Mx) H → va_D A (wM k aM Mestimate Munit Msort Mwidth Mmany Mreading Mvariance Mcovariance Mline Mformulas Mroot Mkind Mone Mother Msigns Mplace MleftOf MrightOf Mtype Msum Msign MsignAt Mproduct Mvalue Mslope Mexponent Mdrawn Mslopes Mfrom Mfactor Mthrown Mlength Mmodels Mopen Mat Mrows Mx) → va_S A s.heap H locs → lv_has ls 6 [(0, .ref (aM 0)), (2, .int v2), (3, .int v3)] → W p l e rmX7_ranked s m args below meth c H locs 0 0 Q (F0 m 33 ls []) := by
    intro E110 hE110 E118 hE118 n
    induction n with
    | zero => intro v3 Mvalue Mslope Mslopes Mthrown h; simp [LX7_ranked_33] at h
    | succ n ih =>
    intro v3 Mvalue Mslope Mslopes Mthrown h H locs ls hP hD hS hl
    rw [LX7_ranked_33] at h
    refine lv_iload_n hx hb dX7_ranked_33 rfl (lv_at hl 2 rfl) ?_
    refine lv_bipush (v := 6) hx hb dX7_ranked_34 (by decide) ?_
    refine lv_icmp_ge (tgt := 118) hx hb dX7_ranked_36 (by decide) (fun c6 => ?_) (fun c6 => ?_)
    · replace h := sf_t c6 h
      exact hE118 _ _ _ _ h _ _ _ hP hD hS (lv_sub hl [] rfl)
    · replace h := sf_f c6 h
      refine lv_iconst (v := 0) hx hb dX7_ranked_39 (by decide) ?_
      refine lv_istore (lv' := [(4, .int 0), (0, .ref (aM 0)), (2, .int v2), (3, .int v3)]) hx hb dX7_ranked_40 hl (by decide) rfl (fun ls hl => ?_)
      refine lv_iconst (v := 0) hx hb dX7_ranked_42 (by decide) ?_
      refine lv_istore (lv' := [(5, .int 0), (4, .int 0), (0, .ref (aM 0)), (2, .int v2), (3, .int v3)]) hx hb dX7_ranked_43 hl (by decide) rfl (fun ls hl => ?_)
      refine LH_45 _ (fun v3 v4 Mvalue Mslope Mslopes Mthrown h H locs ls hP hD hS hl => ?_) _ _ _ _ _ _ _ _ h _ _ _ hP hD hS (lv_sub hl [2, 3, 4, 1, 0] rfl)
      · skip
        refine lv_iload hx hb dX7_ranked_104 (lv_at hl 3 rfl) ?_
        refine lv_iload_n hx hb dX7_ranked_106 rfl (lv_at hl 1 rfl) ?_
        refine lv_icmp_ne (tgt := 112) hx hb dX7_ranked_107 (by decide) (fun c15 => ?_) (fun c15 => ?_)
        · replace h := sf_f c15 h
          refine lv_iinc (v := v3 + 1) (lv' := [(3, .int (v3 + 1)), (0, .ref (aM 0)), (2, .int v2), (4, .int v4)]) hx hb dX7_ranked_112 hl (k := 2) rfl rfl (by decide) rfl (fun ls hl => ?_)
          refine lv_goto (tgt := 33) hx hb dX7_ranked_115 (by decide) ?_
          exact ih _ _ _ _ _ h _ _ _ hP hD hS (lv_sub hl [1, 2, 0] rfl)
        · replace h := sf_t c15 h
          exact hE110 _ _ _ _ _ h _ _ _ hP hD hS (lv_sub hl [2] rfl)
  have BH_18 : ∀ (s1 : Int32) (Mvalue : Nat → Int64) (Mslope : Nat → Int64) (Mslopes : Nat → Int64) (Mthrown : Int32), BX7_ranked_18 Mestimate Mvariance Mformulas Mroot Mkind Mone Mother Mdrawn Mmodels v1 v2 s1 Mvalue Mslope Mslopes Mthrown = some (r, RMvalue, RMslope, RMslopes, RMthrown) → ∀ (H : Heap) (locs : List Loc) (ls : Array Slot), va_P D vwCl (wM k aM Mestimate Munit Msort Mwidth Mmany Mreading Mvariance Mcovariance Mline Mformulas Mroot Mkind Mone Mother Msigns Mplace MleftOf MrightOf Mtype Msum Msign MsignAt Mproduct Mvalue Mslope Mexponent Mdrawn Mslopes Mfrom Mfactor Mthrown Mlength Mmodels Mopen Mat Mrows Mx) H → va_D A (wM k aM Mestimate Munit Msort Mwidth Mmany Mreading Mvariance Mcovariance Mline Mformulas Mroot Mkind Mone Mother Msigns Mplace MleftOf MrightOf Mtype Msum Msign MsignAt Mproduct Mvalue Mslope Mexponent Mdrawn Mslopes Mfrom Mfactor Mthrown Mlength Mmodels Mopen Mat Mrows Mx) → va_S A s.heap H locs → lv_has ls 6 [(0, .ref (aM 0)), (1, .int v1), (2, .int v2)] → W p l e rmX7_ranked s m args below meth c H locs 0 0 Q (F0 m 18 ls [.int s1, .ref (aM 0)]) := by
    intro  s1 Mvalue Mslope Mslopes Mthrown h H locs ls hP hD hS hl
    unfold BX7_ranked_18 at h
    obtain ⟨r3, thrown_3, hc3, h⟩ := bnd2_inv h
    have hFc := va_free (wc := (wM k aM Mestimate Munit Msort Mwidth Mmany Mreading Mvariance Mcovariance Mline Mformulas Mroot Mkind Mone Mother Msigns Mplace MleftOf MrightOf Mtype Msum Msign MsignAt Mproduct Mvalue Mslope Mexponent Mdrawn Mslopes Mfrom Mfactor Mthrown Mlength Mmodels Mopen Mat Mrows Mx)) hD hS hA [0, 1, 2, 3, 4, 5, 6, 7, 8, 9, 10, 11, 12, 13, 14, 15, 16, 17, 18, 19, 20, 21, 22, 23, 24, 25, 26, 27, 28, 29, 30] rfl
    refine xc_i (va_runV (As := [.int s1]) (rest := []) ⟨hx, hb, hml, hown, hts⟩ (met_X7_holds l D k  aM H.size Mestimate Munit Msort Mwidth Mmany Mreading Mvariance Mcovariance Mline Mformulas Mroot Mkind Mone Mother Msigns Mplace MleftOf MrightOf Mtype Msum Msign MsignAt Mproduct Mvalue Mslope Mexponent Mdrawn Mslopes Mfrom Mfactor Mthrown Mlength Mmodels Mopen Mat Mrows Mx s1 r3 thrown_3 hc3) (cwV 1 hts gX7_ranked_X7_holds rfl rfl rfl (by decide +kernel) ⟨Nat.le_of_ble_eq_true rfl, Nat.le_of_ble_eq_true rfl⟩) ⟨pw_blind, va_recv hK hP (ci := 7) (q0 := 0) rfl rfl, pw_start hP hK hD⟩ rfl rfl hl.1 rfl (lv_room (Nat.le_of_ble_eq_true rfl)) dX7_ranked_18 ⟨Nat.zero_le _, Nat.zero_le _⟩) hS hFc (fun H1 locs hP1 hD1 hk1 hS => ?_)
    obtain ⟨hP, hD⟩ := vj_all hFc hP1 hD1
    clear hP1 hD1 hk1 hFc
    generalize H1 = H at hP hS ⊢
    refine lv_if_ne (tgt := 26) hx hb dX7_ranked_21 (by decide) (fun c4 => ?_) (fun c4 => ?_)
    · replace h := sf_f c4 h
      refine lv_aload_n hx hb dX7_ranked_26 rfl (lv_at hl 0 rfl) ?_
      refine lv_iload_n hx hb dX7_ranked_27 rfl (lv_at hl 1 rfl) ?_
      obtain ⟨value_5, slope_5, slopes_5, hc5, h⟩ := bnd3_inv h
      have hFc := va_free (wc := (wM k aM Mestimate Munit Msort Mwidth Mmany Mreading Mvariance Mcovariance Mline Mformulas Mroot Mkind Mone Mother Msigns Mplace MleftOf MrightOf Mtype Msum Msign MsignAt Mproduct Mvalue Mslope Mexponent Mdrawn Mslopes Mfrom Mfactor thrown_3 Mlength Mmodels Mopen Mat Mrows Mx)) hD hS hA [0, 1, 2, 3, 4, 5, 6, 7, 8, 9, 10, 11, 12, 13, 14, 15, 16, 17, 18, 19, 20, 21, 22, 23, 24, 25, 26, 27, 28, 29, 30] rfl
      refine xc_v (va_runV (As := [.int v1]) (rest := []) ⟨hx, hb, hml, hown, hts⟩ (met_X7_laysSlopes l D k  aM H.size Mestimate Munit Msort Mwidth Mmany Mreading Mvariance Mcovariance Mline Mformulas Mroot Mkind Mone Mother Msigns Mplace MleftOf MrightOf Mtype Msum Msign MsignAt Mproduct Mvalue Mslope Mexponent Mdrawn Mslopes Mfrom Mfactor thrown_3 Mlength Mmodels Mopen Mat Mrows Mx v1 value_5 slope_5 slopes_5 hc5) (cwV 1 hts gX7_ranked_X7_laysSlopes rfl rfl rfl (by decide +kernel) ⟨Nat.le_of_ble_eq_true rfl, Nat.le_of_ble_eq_true rfl⟩) ⟨pw_blind, va_recv hK hP (ci := 7) (q0 := 0) rfl rfl, pw_start hP hK hD⟩ rfl rfl hl.1 rfl (lv_room (Nat.le_of_ble_eq_true rfl)) dX7_ranked_28 ⟨Nat.zero_le _, Nat.zero_le _⟩) hS hFc (fun H1 locs hP1 hD1 hk1 hS => ?_)
      obtain ⟨hP, hD⟩ := vj_all hFc hP1 hD1
      clear hP1 hD1 hk1 hFc
      generalize H1 = H at hP hS ⊢
      refine lv_iconst (v := 0) hx hb dX7_ranked_31 (by decide) ?_
      refine lv_istore_n (lv' := [(3, .int 0), (0, .ref (aM 0)), (1, .int v1), (2, .int v2)]) hx hb dX7_ranked_32 rfl hl (by decide) rfl (fun ls hl => ?_)
      refine LH_33 _ (fun v3 Mvalue Mslope Mslopes Mthrown h H locs ls hP hD hS hl => ?_) _ (fun Mvalue Mslope Mslopes Mthrown h H locs ls hP hD hS hl => ?_) _ _ _ _ _ _ h _ _ _ hP hD hS (lv_sub hl [1, 3, 0] rfl)
      · skip
        refine lv_iload_n hx hb dX7_ranked_110 rfl (lv_at hl 0 rfl) ?_
        have hP9 := hP
        have hD9 := hD
        have hS9 := hS
        subst hQ
        cases h
        exact W.iret hx hb hr (fun t ht hW => ⟨⟨_, (), rfl, rfl, by rw [ht]; exact hP9, va_K.moved hW.alike hK, hD9⟩, hS9.F ht⟩) hS9.2.2 dX7_ranked_111
      · skip
        refine lv_iconst (v := -1) hx hb dX7_ranked_118 (by decide) ?_
        have hP9 := hP
        have hD9 := hD
        have hS9 := hS
        subst hQ
        cases h
        exact W.iret hx hb hr (fun t ht hW => ⟨⟨_, (), rfl, rfl, by rw [ht]; exact hP9, va_K.moved hW.alike hK, hD9⟩, hS9.F ht⟩) hS9.2.2 dX7_ranked_119
    · replace h := sf_t c4 h
      refine lv_iconst (v := 0) hx hb dX7_ranked_24 (by decide) ?_
      have hP9 := hP
      have hD9 := hD
      have hS9 := hS
      subst hQ
      cases h
      exact W.iret hx hb hr (fun t ht hW => ⟨⟨_, (), rfl, rfl, by rw [ht]; exact hP9, va_K.moved hW.alike hK, hD9⟩, hS9.F ht⟩) hS9.2.2 dX7_ranked_25
  have BH_17 : ∀ (Mvalue : Nat → Int64) (Mslope : Nat → Int64) (Mslopes : Nat → Int64) (Mthrown : Int32), BX7_ranked_17 Mestimate Mvariance Mformulas Mroot Mkind Mone Mother Mdrawn Mmodels v1 v2 Mvalue Mslope Mslopes Mthrown = some (r, RMvalue, RMslope, RMslopes, RMthrown) → ∀ (H : Heap) (locs : List Loc) (ls : Array Slot), va_P D vwCl (wM k aM Mestimate Munit Msort Mwidth Mmany Mreading Mvariance Mcovariance Mline Mformulas Mroot Mkind Mone Mother Msigns Mplace MleftOf MrightOf Mtype Msum Msign MsignAt Mproduct Mvalue Mslope Mexponent Mdrawn Mslopes Mfrom Mfactor Mthrown Mlength Mmodels Mopen Mat Mrows Mx) H → va_D A (wM k aM Mestimate Munit Msort Mwidth Mmany Mreading Mvariance Mcovariance Mline Mformulas Mroot Mkind Mone Mother Msigns Mplace MleftOf MrightOf Mtype Msum Msign MsignAt Mproduct Mvalue Mslope Mexponent Mdrawn Mslopes Mfrom Mfactor Mthrown Mlength Mmodels Mopen Mat Mrows Mx) → va_S A s.heap H locs → lv_has ls 6 [(0, .ref (aM 0)), (1, .int v1), (2, .int v2)] → W p l e rmX7_ranked s m args below meth c H locs 0 0 Q (F0 m 17 ls [.ref (aM 0)]) := by
    intro  Mvalue Mslope Mslopes Mthrown h H locs ls hP hD hS hl
    unfold BX7_ranked_17 at h
    refine lv_iconst (v := 1) hx hb dX7_ranked_17 (by decide) ?_
    exact BH_18  _ _ _ _ _ h _ _ _ hP hD hS (lv_sub hl [0, 1, 2] rfl)
  suffices main : ∀ (H : Heap) (locs : List Loc) (ls : Array Slot), va_P D vwCl (wM k aM Mestimate Munit Msort Mwidth Mmany Mreading Mvariance Mcovariance Mline Mformulas Mroot Mkind Mone Mother Msigns Mplace MleftOf MrightOf Mtype Msum Msign MsignAt Mproduct Mvalue Mslope Mexponent Mdrawn Mslopes Mfrom Mfactor Mthrown Mlength Mmodels Mopen Mat Mrows Mx) H → va_D A (wM k aM Mestimate Munit Msort Mwidth Mmany Mreading Mvariance Mcovariance Mline Mformulas Mroot Mkind Mone Mother Msigns Mplace MleftOf MrightOf Mtype Msum Msign MsignAt Mproduct Mvalue Mslope Mexponent Mdrawn Mslopes Mfrom Mfactor Mthrown Mlength Mmodels Mopen Mat Mrows Mx) → va_S A s.heap H locs → lv_has ls 6 [(0, .ref (aM 0)), (1, .int v1), (2, .int v2)] → W p l e rmX7_ranked s m args below meth c H locs 0 0 Q (F0 m 0 ls []) from main _ _ _ hP hD hS hl
  clear hP hD hS hl ls hAe
  intro H locs ls hP hD hS hl
  refine lv_aload_n hx hb dX7_ranked_0 rfl (lv_at hl 0 rfl) ?_
  refine lv_aload_n hx hb dX7_ranked_1 rfl (lv_at hl 0 rfl) ?_
  refine lv_iload_n hx hb dX7_ranked_2 rfl (lv_at hl 1 rfl) ?_
  obtain ⟨r1, hc1, h⟩ := bnd1_inv h
  have hFc := va_free (wc := (wM k aM Mestimate Munit Msort Mwidth Mmany Mreading Mvariance Mcovariance Mline Mformulas Mroot Mkind Mone Mother Msigns Mplace MleftOf MrightOf Mtype Msum Msign MsignAt Mproduct Mvalue Mslope Mexponent Mdrawn Mslopes Mfrom Mfactor Mthrown Mlength Mmodels Mopen Mat Mrows Mx)) hD hS hA [0, 1, 2, 3, 4, 5, 6, 7, 8, 9, 10, 11, 12, 13, 14, 15, 16, 17, 18, 19, 20, 21, 22, 23, 24, 25, 26, 27, 28, 29, 30] rfl
  refine xc_i (va_runV (As := [.int v1]) (rest := [.ref (aM 0)]) ⟨hx, hb, hml, hown, hts⟩ (met_X7_isModel l D k  aM H.size Mestimate Munit Msort Mwidth Mmany Mreading Mvariance Mcovariance Mline Mformulas Mroot Mkind Mone Mother Msigns Mplace MleftOf MrightOf Mtype Msum Msign MsignAt Mproduct Mvalue Mslope Mexponent Mdrawn Mslopes Mfrom Mfactor Mthrown Mlength Mmodels Mopen Mat Mrows Mx v1 r1 hc1) (cwV 1 hts gX7_ranked_X7_isModel rfl rfl rfl (by decide +kernel) ⟨Nat.le_of_ble_eq_true rfl, Nat.le_of_ble_eq_true rfl⟩) ⟨pw_blind, va_recv hK hP (ci := 7) (q0 := 0) rfl rfl, pw_start hP hK hD⟩ rfl rfl hl.1 rfl (lv_room (Nat.le_of_ble_eq_true rfl)) dX7_ranked_3 ⟨Nat.zero_le _, Nat.zero_le _⟩) hS hFc (fun H1 locs hP1 hD1 hk1 hS => ?_)
  obtain ⟨hP, hD⟩ := vj_all hFc hP1 hD1
  clear hP1 hD1 hk1 hFc
  generalize H1 = H at hP hS ⊢
  refine lv_if_eq (tgt := 17) hx hb dX7_ranked_6 (by decide) (fun c2 => ?_) (fun c2 => ?_)
  · replace h := sf_t c2 h
    exact BH_17  _ _ _ _ h _ _ _ hP hD hS (lv_sub hl [0, 1, 2] rfl)
  · replace h := sf_f c2 h
    refine lv_iload_n hx hb dX7_ranked_9 rfl (lv_at hl 2 rfl) ?_
    refine lv_if_lt (tgt := 17) hx hb dX7_ranked_10 (by decide) (fun c16 => ?_) (fun c16 => ?_)
    · replace h := sf_t c16 h
      exact BH_17  _ _ _ _ h _ _ _ hP hD hS (lv_sub hl [0, 1, 2] rfl)
    · replace h := sf_f c16 h
      refine lv_iconst (v := 0) hx hb dX7_ranked_13 (by decide) ?_
      refine lv_goto (tgt := 18) hx hb dX7_ranked_14 (by decide) ?_
      exact BH_18  _ _ _ _ _ h _ _ _ hP hD hS (lv_sub hl [0, 1, 2] rfl)
def LX7_table_5 (v1 : Int32) (v2 : Int32) (E38 : Int32 → (Nat → Int32) → (Nat → Int32) → Int32 → Int32 → Option (Int32 × (Nat → Int32) × (Nat → Int32) × Int32 × Int32)) : Nat → Int32 → Int32 → (Nat → Int32) → (Nat → Int32) → Int32 → Int32 → Option (Int32 × (Nat → Int32) × (Nat → Int32) × Int32 × Int32)
  | 0, _, _, _, _, _, _ => none
  | fuel + 1, v3, v4, Mfrom, Mfactor, Mthrown, Mrows => (if Mrows ≤ v4 then E38 v3 Mfrom Mfactor Mthrown Mrows else gi v4 12 ((if (Mfrom v4.toNatClampNeg) = v1 then LX7_table_5 v1 v2 E38 fuel v4 (v4 + 1) Mfrom Mfactor Mthrown Mrows else LX7_table_5 v1 v2 E38 fuel v3 (v4 + 1) Mfrom Mfactor Mthrown Mrows)))
def BX7_table_203 (v1 : Int32) (v2 : Int32)  (v5 : Int32) (s1 : Int32) (s2 : Int32) (Mfrom : Nat → Int32) (Mfactor : Nat → Int32) (Mthrown : Int32) (Mrows : Int32) : Option (Int32 × (Nat → Int32) × (Nat → Int32) × Int32 × Int32) := gi v5 12 (gi v5 12 (some (s1 + s2, upd Mfrom (v5.toNatClampNeg) v1, upd Mfactor (v5.toNatClampNeg) v2, Mthrown, s1 + s2)))
def BX7_table_186 (v1 : Int32) (v2 : Int32)  (v3 : Int32) (s0 : Int32) (Mfrom : Nat → Int32) (Mfactor : Nat → Int32) (Mthrown : Int32) (Mrows : Int32) : Option (Int32 × (Nat → Int32) × (Nat → Int32) × Int32 × Int32) := (if v3 = ((-1)) then BX7_table_203 v1 v2 s0 Mrows 1 Mfrom Mfactor Mthrown Mrows else BX7_table_203 v1 v2 s0 Mrows 0 Mfrom Mfactor Mthrown Mrows)
def BX7_table_129 (v1 : Int32) (v2 : Int32)  (v3 : Int32) (s1 : Int32) (s2 : Int32) (Mfrom : Nat → Int32) (Mfactor : Nat → Int32) (Mthrown : Int32) (Mrows : Int32) : Option (Int32 × (Nat → Int32) × (Nat → Int32) × Int32 × Int32) := (if v3 = ((-1)) then some (s1 - s2, Mfrom, Mfactor, Mthrown, s1 - s2) else gi (s1 - s2) 12 (gi v3 12 (gi (s1 - s2) 12 (gi v3 12 (some (s1 - s2, upd Mfrom (v3.toNatClampNeg) (Mfrom (s1 - s2).toNatClampNeg), upd Mfactor (v3.toNatClampNeg) (Mfactor (s1 - s2).toNatClampNeg), Mthrown, s1 - s2))))))
def BX7_table_101 (v1 : Int32) (v2 : Int32)  (v3 : Int32) (s1 : Int32) (Mfrom : Nat → Int32) (Mfactor : Nat → Int32) (Mthrown : Int32) (Mrows : Int32) : Option (Int32 × (Nat → Int32) × (Nat → Int32) × Int32 × Int32) := bnd2 (fX7_holds s1 Mthrown) (fun r8 thrown_8 => (if r8 = 0 then some (0, Mfrom, Mfactor, thrown_8, Mrows) else (if v2 = ((-1)) then (if v3 = ((-1)) then BX7_table_129 v1 v2 v3 Mrows 0 Mfrom Mfactor thrown_8 Mrows else BX7_table_129 v1 v2 v3 Mrows 1 Mfrom Mfactor thrown_8 Mrows) else (if v3 = ((-1)) then BX7_table_186 v1 v2 v3 Mrows Mfrom Mfactor thrown_8 Mrows else BX7_table_186 v1 v2 v3 v3 Mfrom Mfactor thrown_8 Mrows))))
def BX7_table_100 (v1 : Int32) (v2 : Int32)  (v3 : Int32) (Mfrom : Nat → Int32) (Mfactor : Nat → Int32) (Mthrown : Int32) (Mrows : Int32) : Option (Int32 × (Nat → Int32) × (Nat → Int32) × Int32 × Int32) := BX7_table_101 v1 v2 v3 0 Mfrom Mfactor Mthrown Mrows
def BX7_table_65 (v1 : Int32) (v2 : Int32)  (v3 : Int32) (s0 : Int32) (Mfrom : Nat → Int32) (Mfactor : Nat → Int32) (Mthrown : Int32) (Mrows : Int32) : Option (Int32 × (Nat → Int32) × (Nat → Int32) × Int32 × Int32) := (if s0 = 0 then BX7_table_101 v1 v2 v3 1 Mfrom Mfactor Mthrown Mrows else (if v3 = ((-1)) then (if v2 = ((-1)) then BX7_table_100 v1 v2 v3 Mfrom Mfactor Mthrown Mrows else (if Mrows = 12 then BX7_table_101 v1 v2 v3 2 Mfrom Mfactor Mthrown Mrows else BX7_table_100 v1 v2 v3 Mfrom Mfactor Mthrown Mrows)) else BX7_table_100 v1 v2 v3 Mfrom Mfactor Mthrown Mrows))
def BX7_table_64 (v1 : Int32) (v2 : Int32)  (v3 : Int32) (Mfrom : Nat → Int32) (Mfactor : Nat → Int32) (Mthrown : Int32) (Mrows : Int32) : Option (Int32 × (Nat → Int32) × (Nat → Int32) × Int32 × Int32) := BX7_table_65 v1 v2 v3 0 Mfrom Mfactor Mthrown Mrows
def fX7_table (v1 : Int32) (v2 : Int32) (Mfrom : Nat → Int32) (Mfactor : Nat → Int32) (Mthrown : Int32) (Mrows : Int32) : Option (Int32 × (Nat → Int32) × (Nat → Int32) × Int32 × Int32) := LX7_table_5 v1 v2 (fun (v3 : Int32) (Mfrom : Nat → Int32) (Mfactor : Nat → Int32) (Mthrown : Int32) (Mrows : Int32) => bnd1 (fX7_isIn v1 1 9999) (fun r4 => (if r4 = 0 then BX7_table_64 v1 v2 v3 Mfrom Mfactor Mthrown Mrows else bnd1 (fX7_isIn v2 ((-1)) 999) (fun r23 => (if r23 = 0 then BX7_table_64 v1 v2 v3 Mfrom Mfactor Mthrown Mrows else BX7_table_65 v1 v2 v3 1 Mfrom Mfactor Mthrown Mrows))))) 1000 ((-1)) 0 Mfrom Mfactor Mthrown Mrows
abbrev rmX7_table : Room := { frames := 1, cells := 0, slots := 0, locals := 22 }
set_option maxHeartbeats 4000000 in
set_option maxRecDepth 100000 in
theorem met_X7_table (l : Launch) (D : va_G) (k : Nat → ClassId)  (aM : Nat → Nat) (sz : Nat) (Mestimate : Nat → Int32) (Munit : Nat → Int32) (Msort : Nat → Int32) (Mwidth : Nat → Int32) (Mmany : Nat → Int32) (Mreading : Nat → Int32) (Mvariance : Nat → Int32) (Mcovariance : Nat → Int32) (Mline : Nat → Int32) (Mformulas : Nat → Int32) (Mroot : Nat → Int32) (Mkind : Nat → Int32) (Mone : Nat → Int32) (Mother : Nat → Int32) (Msigns : Nat → Int32) (Mplace : Nat → Int32) (MleftOf : Nat → Int32) (MrightOf : Nat → Int32) (Mtype : Nat → Int32) (Msum : Nat → Int32) (Msign : Nat → Int32) (MsignAt : Nat → Int32) (Mproduct : Nat → Int32) (Mvalue : Nat → Int64) (Mslope : Nat → Int64) (Mexponent : Nat → Int32) (Mdrawn : Nat → Int32) (Mslopes : Nat → Int64) (Mfrom : Nat → Int32) (Mfactor : Nat → Int32) (Mthrown : Int32) (Mlength : Int32) (Mmodels : Int32) (Mopen : Int32) (Mat : Int32) (Mrows : Int32) (Mx : Int32) (v1 : Int32) (v2 : Int32) (r : Int32) (RMfrom : Nat → Int32) (RMfactor : Nat → Int32) (RMthrown : Int32) (RMrows : Int32) (h : fX7_table v1 v2 Mfrom Mfactor Mthrown Mrows = some (r, RMfrom, RMfactor, RMthrown, RMrows)) : Met l yX7_table wsX7_table rmX7_table (va_Pc [.ref (aM 0), .int v1, .int v2] (PreW D k (wM k aM Mestimate Munit Msort Mwidth Mmany Mreading Mvariance Mcovariance Mline Mformulas Mroot Mkind Mone Mother Msigns Mplace MleftOf MrightOf Mtype Msum Msign MsignAt Mproduct Mvalue Mslope Mexponent Mdrawn Mslopes Mfrom Mfactor Mthrown Mlength Mmodels Mopen Mat Mrows Mx) sz)) (va_Qi (fun r9 (_ : Unit) => r9 = r) (fun _ t => PostW D k (va_A (wM k aM Mestimate Munit Msort Mwidth Mmany Mreading Mvariance Mcovariance Mline Mformulas Mroot Mkind Mone Mother Msigns Mplace MleftOf MrightOf Mtype Msum Msign MsignAt Mproduct Mvalue Mslope Mexponent Mdrawn Mslopes Mfrom Mfactor Mthrown Mlength Mmodels Mopen Mat Mrows Mx) sz) (wM k aM Mestimate Munit Msort Mwidth Mmany Mreading Mvariance Mcovariance Mline Mformulas Mroot Mkind Mone Mother Msigns Mplace MleftOf MrightOf Mtype Msum Msign MsignAt Mproduct Mvalue Mslope Mexponent Mdrawn Mslopes RMfrom RMfactor RMthrown Mlength Mmodels Mopen Mat RMrows Mx) t) (va_A (wM k aM Mestimate Munit Msort Mwidth Mmany Mreading Mvariance Mcovariance Mline Mformulas Mroot Mkind Mone Mother Msigns Mplace MleftOf MrightOf Mtype Msum Msign MsignAt Mproduct Mvalue Mslope Mexponent Mdrawn Mslopes Mfrom Mfactor Mthrown Mlength Mmodels Mopen Mat Mrows Mx) sz)) 0 0 (va_A (wM k aM Mestimate Munit Msort Mwidth Mmany Mreading Mvariance Mcovariance Mline Mformulas Mroot Mkind Mone Mother Msigns Mplace MleftOf MrightOf Mtype Msum Msign MsignAt Mproduct Mvalue Mslope Mexponent Mdrawn Mslopes Mfrom Mfactor Mthrown Mlength Mmodels Mopen Mat Mrows Mx) sz) := by
  refine Met.ofW (cc := cX7_table) (maxL := 6) (ret := (some .int)) (by decide) rfl ?_
  intro p e s m args below meth c s₁ B hml hv
  obtain ⟨hav, hsz, hP, hK, hD0⟩ := hv
  have hx := B.exec
  have hb := B.bytes
  have hr := B.returns
  have hts := atoms_spec (ws := wsX7_table) B.pre
  have hown : s.vm.findClass RX7 = some m.cls := findClass_of_methodNamed B.named
  have hlocks := B.notSynchronized
  subst hsz
  have hD := hD0.self (sz := s.heap.size)
  clear hD0
  generalize hAe : va_A (wM k aM Mestimate Munit Msort Mwidth Mmany Mreading Mvariance Mcovariance Mline Mformulas Mroot Mkind Mone Mother Msigns Mplace MleftOf MrightOf Mtype Msum Msign MsignAt Mproduct Mvalue Mslope Mexponent Mdrawn Mslopes Mfrom Mfactor Mthrown Mlength Mmodels Mopen Mat Mrows Mx) s.heap.size = A at hD ⊢
  have hA : ∀ q : Nat, s.heap.size ≤ q → A q := fun q h => by rw [← hAe]; exact Or.inr h
  have hS : va_S A s.heap s.heap [] := va_S.rf
  have hl := lv_entry ([.ref (aM 0), .int v1, .int v2]) (n := 6) (Nat.le_of_ble_eq_true rfl)
  rw [show entryFrame m args 6 = entryFrame m ([.ref (aM 0), .int v1, .int v2] : List Value).toArray 6 from by rw [hav], lg_entry_eq]
  generalize (lg_sl ([.ref (aM 0), .int v1, .int v2]) ++ List.replicate (6 - (lg_sl ([.ref (aM 0), .int v1, .int v2])).length) Slot.unset).toArray = ls at hl ⊢
  replace hl : lv_has ls 6 [(0, .ref (aM 0)), (1, .int v1), (2, .int v2)] := hl
  have f95 := hts (.fieldLink RX7 95 "UncertainBookModel" "rows" "I") (by decide +kernel)
  have f99 := hts (.fieldLink RX7 99 "UncertainBookModel" "from" "[I") (by decide +kernel)
  have f102 := hts (.fieldLink RX7 102 "UncertainBookModel" "factor" "[I") (by decide +kernel)
  have iX7 : ∀ w ∈ u_ws RX7 TX7 37, w ∈ wsX7_table := by decide +kernel
  refine w_q (fun Q hQ => ?_)
  unfold fX7_table at h
  show W p l e rmX7_table s m args below meth c s.heap [] 0 0 Q (F0 m 0 ls [])
  have LH_5 : ∀ (E38 : Int32 → (Nat → Int32) → (Nat → Int32) → Int32 → Int32 → Option (Int32 × (Nat → Int32) × (Nat → Int32) × Int32 × Int32)) (hE38 : ∀ (v3 : Int32) (Mfrom : Nat → Int32) (Mfactor : Nat → Int32) (Mthrown : Int32) (Mrows : Int32), E38 v3 Mfrom Mfactor Mthrown Mrows = some (r, RMfrom, RMfactor, RMthrown, RMrows) → ∀ (H : Heap) (locs : List Loc) (ls : Array Slot), va_P D vwCl (wM k aM Mestimate Munit Msort Mwidth Mmany Mreading Mvariance Mcovariance Mline Mformulas Mroot Mkind Mone Mother Msigns Mplace MleftOf MrightOf Mtype Msum Msign MsignAt Mproduct Mvalue Mslope Mexponent Mdrawn Mslopes Mfrom Mfactor Mthrown Mlength Mmodels Mopen Mat Mrows Mx) H → va_D A (wM k aM Mestimate Munit Msort Mwidth Mmany Mreading Mvariance Mcovariance Mline Mformulas Mroot Mkind Mone Mother Msigns Mplace MleftOf MrightOf Mtype Msum Msign MsignAt Mproduct Mvalue Mslope Mexponent Mdrawn Mslopes Mfrom Mfactor Mthrown Mlength Mmodels Mopen Mat Mrows Mx) → va_S A s.heap H locs → lv_has ls 6 [(0, .ref (aM 0)), (1, .int v1), (2, .int v2), (3, .int v3)] → W p l e rmX7_table s m args below meth c H locs 0 0 Q (F0 m 38 ls [])) (n : Nat) (v3 : Int32) (v4 : Int32) (Mfrom : Nat → Int32) (Mfactor : Nat → Int32) (Mthrown : Int32) (Mrows : Int32), LX7_table_5 v1 v2 E38 n v3 v4 Mfrom Mfactor Mthrown Mrows = some (r, RMfrom, RMfactor, RMthrown, RMrows) → ∀ (H : Heap) (locs : List Loc) (ls : Array Slot), va_P D vwCl (wM k aM Mestimate Munit Msort Mwidth Mmany Mreading Mvariance Mcovariance Mline Mformulas Mroot Mkind Mone Mother Msigns Mplace MleftOf MrightOf Mtype Msum Msign MsignAt Mproduct Mvalue Mslope Mexponent Mdrawn Mslopes Mfrom Mfactor Mthrown Mlength Mmodels Mopen Mat Mrows Mx) H → va_D A (wM k aM Mestimate Munit Msort Mwidth Mmany Mreading Mvariance Mcovariance Mline Mformulas Mroot Mkind Mone Mother Msigns Mplace MleftOf MrightOf Mtype Msum Msign MsignAt Mproduct Mvalue Mslope Mexponent Mdrawn Mslopes Mfrom Mfactor Mthrown Mlength Mmodels Mopen Mat Mrows Mx) → va_S A s.heap H locs → lv_has ls 6 [(0, .ref (aM 0)), (1, .int v1), (2, .int v2), (3, .int v3), (4, .int v4)] → W p l e rmX7_table s m args below meth c H locs 0 0 Q (F0 m 5 ls []) := by
    intro E38 hE38 n
    induction n with
    | zero => intro v3 v4 Mfrom Mfactor Mthrown Mrows h; simp [LX7_table_5] at h
    | succ n ih =>
    intro v3 v4 Mfrom Mfactor Mthrown Mrows h H locs ls hP hD hS hl
    rw [LX7_table_5] at h
    refine lv_iload hx hb dX7_table_5 (lv_at hl 4 rfl) ?_
    refine lv_aload_n hx hb dX7_table_7 rfl (lv_at hl 0 rfl) ?_
    refine va_get (D := D) (ci := 7) (v := .int Mrows) (C := RX7) (T := TX7) (N := 37) hx hb hts iX7 hown hK hP 0 rfl rfl 33 (by decide) f95 (fun _ h9 => h9) rfl dX7_table_8 ?_
    refine lv_icmp_ge (tgt := 38) hx hb dX7_table_11 (by decide) (fun c1 => ?_) (fun c1 => ?_)
    · replace h := sf_t c1 h
      exact hE38 _ _ _ _ _ h _ _ _ hP hD hS (lv_sub hl [0, 1, 2, 3] rfl)
    · replace h := sf_f c1 h
      refine lv_aload_n hx hb dX7_table_14 rfl (lv_at hl 0 rfl) ?_
      refine va_get (D := D) (ci := 7) (v := .ref (aM 29)) (C := RX7) (T := TX7) (N := 37) hx hb hts iX7 hown hK hP 0 rfl rfl 34 (by decide) f99 (fun _ h9 => h9) rfl dX7_table_15 ?_
      refine lv_iload hx hb dX7_table_18 (lv_at hl 4 rfl) ?_
      obtain ⟨hi2, h⟩ := gi_inv h
      refine va_iald hx hb hK hP 29 0 rfl rfl hi2 dX7_table_20 ?_
      refine lv_iload_n hx hb dX7_table_21 rfl (lv_at hl 1 rfl) ?_
      refine lv_icmp_ne (tgt := 30) hx hb dX7_table_22 (by decide) (fun c3 => ?_) (fun c3 => ?_)
      · replace h := sf_f c3 h
        refine lv_iload_n hx hb dX7_table_30 rfl (lv_at hl 3 rfl) ?_
        refine lv_istore_n (lv' := [(3, .int v3), (0, .ref (aM 0)), (1, .int v1), (2, .int v2), (4, .int v4)]) hx hb dX7_table_31 rfl hl (by decide) rfl (fun ls hl => ?_)
        refine lv_iinc (v := v4 + 1) (lv' := [(4, .int (v4 + 1)), (3, .int v3), (0, .ref (aM 0)), (1, .int v1), (2, .int v2)]) hx hb dX7_table_32 hl (k := 4) rfl rfl (by decide) rfl (fun ls hl => ?_)
        refine lv_goto (tgt := 5) hx hb dX7_table_35 (by decide) ?_
        exact ih _ _ _ _ _ _ h _ _ _ hP hD hS (lv_sub hl [2, 3, 4, 1, 0] rfl)
      · replace h := sf_t c3 h
        refine lv_iload hx hb dX7_table_25 (lv_at hl 4 rfl) ?_
        refine lv_goto (tgt := 31) hx hb dX7_table_27 (by decide) ?_
        refine lv_istore_n (lv' := [(3, .int v4), (0, .ref (aM 0)), (1, .int v1), (2, .int v2), (4, .int v4)]) hx hb dX7_table_31 rfl hl (by decide) rfl (fun ls hl => ?_)
        refine lv_iinc (v := v4 + 1) (lv' := [(4, .int (v4 + 1)), (3, .int v4), (0, .ref (aM 0)), (1, .int v1), (2, .int v2)]) hx hb dX7_table_32 hl (k := 4) rfl rfl (by decide) rfl (fun ls hl => ?_)
        refine lv_goto (tgt := 5) hx hb dX7_table_35 (by decide) ?_
        exact ih _ _ _ _ _ _ h _ _ _ hP hD hS (lv_sub hl [2, 3, 4, 1, 0] rfl)
  have BH_203 : ∀ (v5 : Int32) (s1 : Int32) (s2 : Int32) (Mfrom : Nat → Int32) (Mfactor : Nat → Int32) (Mthrown : Int32) (Mrows : Int32), BX7_table_203 v1 v2 v5 s1 s2 Mfrom Mfactor Mthrown Mrows = some (r, RMfrom, RMfactor, RMthrown, RMrows) → ∀ (H : Heap) (locs : List Loc) (ls : Array Slot), va_P D vwCl (wM k aM Mestimate Munit Msort Mwidth Mmany Mreading Mvariance Mcovariance Mline Mformulas Mroot Mkind Mone Mother Msigns Mplace MleftOf MrightOf Mtype Msum Msign MsignAt Mproduct Mvalue Mslope Mexponent Mdrawn Mslopes Mfrom Mfactor Mthrown Mlength Mmodels Mopen Mat Mrows Mx) H → va_D A (wM k aM Mestimate Munit Msort Mwidth Mmany Mreading Mvariance Mcovariance Mline Mformulas Mroot Mkind Mone Mother Msigns Mplace MleftOf MrightOf Mtype Msum Msign MsignAt Mproduct Mvalue Mslope Mexponent Mdrawn Mslopes Mfrom Mfactor Mthrown Mlength Mmodels Mopen Mat Mrows Mx) → va_S A s.heap H locs → lv_has ls 6 [(0, .ref (aM 0)), (1, .int v1), (2, .int v2), (5, .int v5)] → W p l e rmX7_table s m args below meth c H locs 0 0 Q (F0 m 203 ls [.int s2, .int s1, .ref (aM 0)]) := by
    intro  v5 s1 s2 Mfrom Mfactor Mthrown Mrows h H locs ls hP hD hS hl
    unfold BX7_table_203 at h
    refine lv_iadd hx hb dX7_table_203 ?_
    refine va_put (D := D) (ci := 7) (v := .int (s1 + s2)) (ty := .int) (C := RX7) (T := TX7) (N := 37) hx hb hts iX7 tyX7 tyX7_ok nmX7 hown hK hP hD hS 0 rfl rfl 33 (by decide) f95 (fun _ h9 => h9) rfl (by decide +kernel) rfl rfl (Nat.le_of_ble_eq_true rfl) dX7_table_204 (fun H locs hP hD hS => ?_)
    replace hP : va_P D vwCl (wM k aM Mestimate Munit Msort Mwidth Mmany Mreading Mvariance Mcovariance Mline Mformulas Mroot Mkind Mone Mother Msigns Mplace MleftOf MrightOf Mtype Msum Msign MsignAt Mproduct Mvalue Mslope Mexponent Mdrawn Mslopes Mfrom Mfactor Mthrown Mlength Mmodels Mopen Mat (s1 + s2) Mx) H := hP
    replace hD : va_D A (wM k aM Mestimate Munit Msort Mwidth Mmany Mreading Mvariance Mcovariance Mline Mformulas Mroot Mkind Mone Mother Msigns Mplace MleftOf MrightOf Mtype Msum Msign MsignAt Mproduct Mvalue Mslope Mexponent Mdrawn Mslopes Mfrom Mfactor Mthrown Mlength Mmodels Mopen Mat (s1 + s2) Mx) := hD
    refine lv_aload_n hx hb dX7_table_207 rfl (lv_at hl 0 rfl) ?_
    refine va_get (D := D) (ci := 7) (v := .ref (aM 29)) (C := RX7) (T := TX7) (N := 37) hx hb hts iX7 hown hK hP 0 rfl rfl 34 (by decide) f99 (fun _ h9 => h9) rfl dX7_table_208 ?_
    refine lv_iload hx hb dX7_table_211 (lv_at hl 3 rfl) ?_
    refine lv_iload_n hx hb dX7_table_213 rfl (lv_at hl 1 rfl) ?_
    obtain ⟨hi13, h⟩ := gi_inv h
    refine va_iast hx hb hK hP hD hS 29 0 rfl rfl hi13 dX7_table_214 (fun H locs hP hD hS => ?_)
    replace hP : va_P D vwCl (wM k aM Mestimate Munit Msort Mwidth Mmany Mreading Mvariance Mcovariance Mline Mformulas Mroot Mkind Mone Mother Msigns Mplace MleftOf MrightOf Mtype Msum Msign MsignAt Mproduct Mvalue Mslope Mexponent Mdrawn Mslopes (upd Mfrom (v5.toNatClampNeg) v1) Mfactor Mthrown Mlength Mmodels Mopen Mat (s1 + s2) Mx) H := hP
    replace hD : va_D A (wM k aM Mestimate Munit Msort Mwidth Mmany Mreading Mvariance Mcovariance Mline Mformulas Mroot Mkind Mone Mother Msigns Mplace MleftOf MrightOf Mtype Msum Msign MsignAt Mproduct Mvalue Mslope Mexponent Mdrawn Mslopes (upd Mfrom (v5.toNatClampNeg) v1) Mfactor Mthrown Mlength Mmodels Mopen Mat (s1 + s2) Mx) := hD
    refine lv_aload_n hx hb dX7_table_215 rfl (lv_at hl 0 rfl) ?_
    refine va_get (D := D) (ci := 7) (v := .ref (aM 30)) (C := RX7) (T := TX7) (N := 37) hx hb hts iX7 hown hK hP 0 rfl rfl 35 (by decide) f102 (fun _ h9 => h9) rfl dX7_table_216 ?_
    refine lv_iload hx hb dX7_table_219 (lv_at hl 3 rfl) ?_
    refine lv_iload_n hx hb dX7_table_221 rfl (lv_at hl 2 rfl) ?_
    obtain ⟨hi14, h⟩ := gi_inv h
    refine va_iast hx hb hK hP hD hS 30 0 rfl rfl hi14 dX7_table_222 (fun H locs hP hD hS => ?_)
    replace hP : va_P D vwCl (wM k aM Mestimate Munit Msort Mwidth Mmany Mreading Mvariance Mcovariance Mline Mformulas Mroot Mkind Mone Mother Msigns Mplace MleftOf MrightOf Mtype Msum Msign MsignAt Mproduct Mvalue Mslope Mexponent Mdrawn Mslopes (upd Mfrom (v5.toNatClampNeg) v1) (upd Mfactor (v5.toNatClampNeg) v2) Mthrown Mlength Mmodels Mopen Mat (s1 + s2) Mx) H := hP
    replace hD : va_D A (wM k aM Mestimate Munit Msort Mwidth Mmany Mreading Mvariance Mcovariance Mline Mformulas Mroot Mkind Mone Mother Msigns Mplace MleftOf MrightOf Mtype Msum Msign MsignAt Mproduct Mvalue Mslope Mexponent Mdrawn Mslopes (upd Mfrom (v5.toNatClampNeg) v1) (upd Mfactor (v5.toNatClampNeg) v2) Mthrown Mlength Mmodels Mopen Mat (s1 + s2) Mx) := hD
    refine lv_aload_n hx hb dX7_table_223 rfl (lv_at hl 0 rfl) ?_
    refine va_get (D := D) (ci := 7) (v := .int (s1 + s2)) (C := RX7) (T := TX7) (N := 37) hx hb hts iX7 hown hK hP 0 rfl rfl 33 (by decide) f95 (fun _ h9 => h9) rfl dX7_table_224 ?_
    have hP9 := hP
    have hD9 := hD
    have hS9 := hS
    subst hQ
    cases h
    exact W.iret hx hb hr (fun t ht hW => ⟨⟨_, (), rfl, rfl, by rw [ht]; exact hP9, va_K.moved hW.alike hK, hD9⟩, hS9.F ht⟩) hS9.2.2 dX7_table_227
  have BH_186 : ∀ (v3 : Int32) (s0 : Int32) (Mfrom : Nat → Int32) (Mfactor : Nat → Int32) (Mthrown : Int32) (Mrows : Int32), BX7_table_186 v1 v2 v3 s0 Mfrom Mfactor Mthrown Mrows = some (r, RMfrom, RMfactor, RMthrown, RMrows) → ∀ (H : Heap) (locs : List Loc) (ls : Array Slot), va_P D vwCl (wM k aM Mestimate Munit Msort Mwidth Mmany Mreading Mvariance Mcovariance Mline Mformulas Mroot Mkind Mone Mother Msigns Mplace MleftOf MrightOf Mtype Msum Msign MsignAt Mproduct Mvalue Mslope Mexponent Mdrawn Mslopes Mfrom Mfactor Mthrown Mlength Mmodels Mopen Mat Mrows Mx) H → va_D A (wM k aM Mestimate Munit Msort Mwidth Mmany Mreading Mvariance Mcovariance Mline Mformulas Mroot Mkind Mone Mother Msigns Mplace MleftOf MrightOf Mtype Msum Msign MsignAt Mproduct Mvalue Mslope Mexponent Mdrawn Mslopes Mfrom Mfactor Mthrown Mlength Mmodels Mopen Mat Mrows Mx) → va_S A s.heap H locs → lv_has ls 6 [(0, .ref (aM 0)), (1, .int v1), (2, .int v2), (3, .int v3)] → W p l e rmX7_table s m args below meth c H locs 0 0 Q (F0 m 186 ls [.int s0]) := by
    intro  v3 s0 Mfrom Mfactor Mthrown Mrows h H locs ls hP hD hS hl
    unfold BX7_table_186 at h
    refine lv_istore (lv' := [(5, .int s0), (0, .ref (aM 0)), (1, .int v1), (2, .int v2), (3, .int v3)]) hx hb dX7_table_186 hl (by decide) rfl (fun ls hl => ?_)
    refine lv_aload_n hx hb dX7_table_188 rfl (lv_at hl 1 rfl) ?_
    refine lv_dup hx hb dX7_table_189 rfl ?_
    refine va_get (D := D) (ci := 7) (v := .int Mrows) (C := RX7) (T := TX7) (N := 37) hx hb hts iX7 hown hK hP 0 rfl rfl 33 (by decide) f95 (fun _ h9 => h9) rfl dX7_table_190 ?_
    refine lv_iload_n hx hb dX7_table_193 rfl (lv_at hl 4 rfl) ?_
    refine lv_iconst (v := -1) hx hb dX7_table_194 (by decide) ?_
    refine lv_icmp_ne (tgt := 202) hx hb dX7_table_195 (by decide) (fun c12 => ?_) (fun c12 => ?_)
    · replace h := sf_f c12 h
      refine lv_iconst (v := 0) hx hb dX7_table_202 (by decide) ?_
      exact BH_203  _ _ _ _ _ _ _ h _ _ _ hP hD hS (lv_sub hl [1, 2, 3, 0] rfl)
    · replace h := sf_t c12 h
      refine lv_iconst (v := 1) hx hb dX7_table_198 (by decide) ?_
      refine lv_goto (tgt := 203) hx hb dX7_table_199 (by decide) ?_
      exact BH_203  _ _ _ _ _ _ _ h _ _ _ hP hD hS (lv_sub hl [1, 2, 3, 0] rfl)
  have BH_129 : ∀ (v3 : Int32) (s1 : Int32) (s2 : Int32) (Mfrom : Nat → Int32) (Mfactor : Nat → Int32) (Mthrown : Int32) (Mrows : Int32), BX7_table_129 v1 v2 v3 s1 s2 Mfrom Mfactor Mthrown Mrows = some (r, RMfrom, RMfactor, RMthrown, RMrows) → ∀ (H : Heap) (locs : List Loc) (ls : Array Slot), va_P D vwCl (wM k aM Mestimate Munit Msort Mwidth Mmany Mreading Mvariance Mcovariance Mline Mformulas Mroot Mkind Mone Mother Msigns Mplace MleftOf MrightOf Mtype Msum Msign MsignAt Mproduct Mvalue Mslope Mexponent Mdrawn Mslopes Mfrom Mfactor Mthrown Mlength Mmodels Mopen Mat Mrows Mx) H → va_D A (wM k aM Mestimate Munit Msort Mwidth Mmany Mreading Mvariance Mcovariance Mline Mformulas Mroot Mkind Mone Mother Msigns Mplace MleftOf MrightOf Mtype Msum Msign MsignAt Mproduct Mvalue Mslope Mexponent Mdrawn Mslopes Mfrom Mfactor Mthrown Mlength Mmodels Mopen Mat Mrows Mx) → va_S A s.heap H locs → lv_has ls 6 [(0, .ref (aM 0)), (3, .int v3)] → W p l e rmX7_table s m args below meth c H locs 0 0 Q (F0 m 129 ls [.int s2, .int s1, .ref (aM 0)]) := by
    intro  v3 s1 s2 Mfrom Mfactor Mthrown Mrows h H locs ls hP hD hS hl
    unfold BX7_table_129 at h
    refine lv_isub hx hb dX7_table_129 ?_
    refine va_put (D := D) (ci := 7) (v := .int (s1 - s2)) (ty := .int) (C := RX7) (T := TX7) (N := 37) hx hb hts iX7 tyX7 tyX7_ok nmX7 hown hK hP hD hS 0 rfl rfl 33 (by decide) f95 (fun _ h9 => h9) rfl (by decide +kernel) rfl rfl (Nat.le_of_ble_eq_true rfl) dX7_table_130 (fun H locs hP hD hS => ?_)
    replace hP : va_P D vwCl (wM k aM Mestimate Munit Msort Mwidth Mmany Mreading Mvariance Mcovariance Mline Mformulas Mroot Mkind Mone Mother Msigns Mplace MleftOf MrightOf Mtype Msum Msign MsignAt Mproduct Mvalue Mslope Mexponent Mdrawn Mslopes Mfrom Mfactor Mthrown Mlength Mmodels Mopen Mat (s1 - s2) Mx) H := hP
    replace hD : va_D A (wM k aM Mestimate Munit Msort Mwidth Mmany Mreading Mvariance Mcovariance Mline Mformulas Mroot Mkind Mone Mother Msigns Mplace MleftOf MrightOf Mtype Msum Msign MsignAt Mproduct Mvalue Mslope Mexponent Mdrawn Mslopes Mfrom Mfactor Mthrown Mlength Mmodels Mopen Mat (s1 - s2) Mx) := hD
    refine lv_iload_n hx hb dX7_table_133 rfl (lv_at hl 1 rfl) ?_
    refine lv_iconst (v := -1) hx hb dX7_table_134 (by decide) ?_
    refine lv_icmp_eq (tgt := 168) hx hb dX7_table_135 (by decide) (fun c16 => ?_) (fun c16 => ?_)
    · replace h := sf_t c16 h
      refine lv_aload_n hx hb dX7_table_168 rfl (lv_at hl 0 rfl) ?_
      refine va_get (D := D) (ci := 7) (v := .int (s1 - s2)) (C := RX7) (T := TX7) (N := 37) hx hb hts iX7 hown hK hP 0 rfl rfl 33 (by decide) f95 (fun _ h9 => h9) rfl dX7_table_169 ?_
      have hP9 := hP
      have hD9 := hD
      have hS9 := hS
      subst hQ
      cases h
      exact W.iret hx hb hr (fun t ht hW => ⟨⟨_, (), rfl, rfl, by rw [ht]; exact hP9, va_K.moved hW.alike hK, hD9⟩, hS9.F ht⟩) hS9.2.2 dX7_table_172
    · replace h := sf_f c16 h
      refine lv_aload_n hx hb dX7_table_138 rfl (lv_at hl 0 rfl) ?_
      refine va_get (D := D) (ci := 7) (v := .ref (aM 29)) (C := RX7) (T := TX7) (N := 37) hx hb hts iX7 hown hK hP 0 rfl rfl 34 (by decide) f99 (fun _ h9 => h9) rfl dX7_table_139 ?_
      refine lv_iload_n hx hb dX7_table_142 rfl (lv_at hl 1 rfl) ?_
      refine lv_aload_n hx hb dX7_table_143 rfl (lv_at hl 0 rfl) ?_
      refine va_get (D := D) (ci := 7) (v := .ref (aM 29)) (C := RX7) (T := TX7) (N := 37) hx hb hts iX7 hown hK hP 0 rfl rfl 34 (by decide) f99 (fun _ h9 => h9) rfl dX7_table_144 ?_
      refine lv_aload_n hx hb dX7_table_147 rfl (lv_at hl 0 rfl) ?_
      refine va_get (D := D) (ci := 7) (v := .int (s1 - s2)) (C := RX7) (T := TX7) (N := 37) hx hb hts iX7 hown hK hP 0 rfl rfl 33 (by decide) f95 (fun _ h9 => h9) rfl dX7_table_148 ?_
      obtain ⟨hi17, h⟩ := gi_inv h
      refine va_iald hx hb hK hP 29 0 rfl rfl hi17 dX7_table_151 ?_
      obtain ⟨hi18, h⟩ := gi_inv h
      refine va_iast hx hb hK hP hD hS 29 0 rfl rfl hi18 dX7_table_152 (fun H locs hP hD hS => ?_)
      replace hP : va_P D vwCl (wM k aM Mestimate Munit Msort Mwidth Mmany Mreading Mvariance Mcovariance Mline Mformulas Mroot Mkind Mone Mother Msigns Mplace MleftOf MrightOf Mtype Msum Msign MsignAt Mproduct Mvalue Mslope Mexponent Mdrawn Mslopes (upd Mfrom (v3.toNatClampNeg) (Mfrom (s1 - s2).toNatClampNeg)) Mfactor Mthrown Mlength Mmodels Mopen Mat (s1 - s2) Mx) H := hP
      replace hD : va_D A (wM k aM Mestimate Munit Msort Mwidth Mmany Mreading Mvariance Mcovariance Mline Mformulas Mroot Mkind Mone Mother Msigns Mplace MleftOf MrightOf Mtype Msum Msign MsignAt Mproduct Mvalue Mslope Mexponent Mdrawn Mslopes (upd Mfrom (v3.toNatClampNeg) (Mfrom (s1 - s2).toNatClampNeg)) Mfactor Mthrown Mlength Mmodels Mopen Mat (s1 - s2) Mx) := hD
      refine lv_aload_n hx hb dX7_table_153 rfl (lv_at hl 0 rfl) ?_
      refine va_get (D := D) (ci := 7) (v := .ref (aM 30)) (C := RX7) (T := TX7) (N := 37) hx hb hts iX7 hown hK hP 0 rfl rfl 35 (by decide) f102 (fun _ h9 => h9) rfl dX7_table_154 ?_
      refine lv_iload_n hx hb dX7_table_157 rfl (lv_at hl 1 rfl) ?_
      refine lv_aload_n hx hb dX7_table_158 rfl (lv_at hl 0 rfl) ?_
      refine va_get (D := D) (ci := 7) (v := .ref (aM 30)) (C := RX7) (T := TX7) (N := 37) hx hb hts iX7 hown hK hP 0 rfl rfl 35 (by decide) f102 (fun _ h9 => h9) rfl dX7_table_159 ?_
      refine lv_aload_n hx hb dX7_table_162 rfl (lv_at hl 0 rfl) ?_
      refine va_get (D := D) (ci := 7) (v := .int (s1 - s2)) (C := RX7) (T := TX7) (N := 37) hx hb hts iX7 hown hK hP 0 rfl rfl 33 (by decide) f95 (fun _ h9 => h9) rfl dX7_table_163 ?_
      obtain ⟨hi19, h⟩ := gi_inv h
      refine va_iald hx hb hK hP 30 0 rfl rfl hi19 dX7_table_166 ?_
      obtain ⟨hi20, h⟩ := gi_inv h
      refine va_iast hx hb hK hP hD hS 30 0 rfl rfl hi20 dX7_table_167 (fun H locs hP hD hS => ?_)
      replace hP : va_P D vwCl (wM k aM Mestimate Munit Msort Mwidth Mmany Mreading Mvariance Mcovariance Mline Mformulas Mroot Mkind Mone Mother Msigns Mplace MleftOf MrightOf Mtype Msum Msign MsignAt Mproduct Mvalue Mslope Mexponent Mdrawn Mslopes (upd Mfrom (v3.toNatClampNeg) (Mfrom (s1 - s2).toNatClampNeg)) (upd Mfactor (v3.toNatClampNeg) (Mfactor (s1 - s2).toNatClampNeg)) Mthrown Mlength Mmodels Mopen Mat (s1 - s2) Mx) H := hP
      replace hD : va_D A (wM k aM Mestimate Munit Msort Mwidth Mmany Mreading Mvariance Mcovariance Mline Mformulas Mroot Mkind Mone Mother Msigns Mplace MleftOf MrightOf Mtype Msum Msign MsignAt Mproduct Mvalue Mslope Mexponent Mdrawn Mslopes (upd Mfrom (v3.toNatClampNeg) (Mfrom (s1 - s2).toNatClampNeg)) (upd Mfactor (v3.toNatClampNeg) (Mfactor (s1 - s2).toNatClampNeg)) Mthrown Mlength Mmodels Mopen Mat (s1 - s2) Mx) := hD
      refine lv_aload_n hx hb dX7_table_168 rfl (lv_at hl 0 rfl) ?_
      refine va_get (D := D) (ci := 7) (v := .int (s1 - s2)) (C := RX7) (T := TX7) (N := 37) hx hb hts iX7 hown hK hP 0 rfl rfl 33 (by decide) f95 (fun _ h9 => h9) rfl dX7_table_169 ?_
      have hP9 := hP
      have hD9 := hD
      have hS9 := hS
      subst hQ
      cases h
      exact W.iret hx hb hr (fun t ht hW => ⟨⟨_, (), rfl, rfl, by rw [ht]; exact hP9, va_K.moved hW.alike hK, hD9⟩, hS9.F ht⟩) hS9.2.2 dX7_table_172
  have BH_101 : ∀ (v3 : Int32) (s1 : Int32) (Mfrom : Nat → Int32) (Mfactor : Nat → Int32) (Mthrown : Int32) (Mrows : Int32), BX7_table_101 v1 v2 v3 s1 Mfrom Mfactor Mthrown Mrows = some (r, RMfrom, RMfactor, RMthrown, RMrows) → ∀ (H : Heap) (locs : List Loc) (ls : Array Slot), va_P D vwCl (wM k aM Mestimate Munit Msort Mwidth Mmany Mreading Mvariance Mcovariance Mline Mformulas Mroot Mkind Mone Mother Msigns Mplace MleftOf MrightOf Mtype Msum Msign MsignAt Mproduct Mvalue Mslope Mexponent Mdrawn Mslopes Mfrom Mfactor Mthrown Mlength Mmodels Mopen Mat Mrows Mx) H → va_D A (wM k aM Mestimate Munit Msort Mwidth Mmany Mreading Mvariance Mcovariance Mline Mformulas Mroot Mkind Mone Mother Msigns Mplace MleftOf MrightOf Mtype Msum Msign MsignAt Mproduct Mvalue Mslope Mexponent Mdrawn Mslopes Mfrom Mfactor Mthrown Mlength Mmodels Mopen Mat Mrows Mx) → va_S A s.heap H locs → lv_has ls 6 [(0, .ref (aM 0)), (1, .int v1), (2, .int v2), (3, .int v3)] → W p l e rmX7_table s m args below meth c H locs 0 0 Q (F0 m 101 ls [.int s1, .ref (aM 0)]) := by
    intro  v3 s1 Mfrom Mfactor Mthrown Mrows h H locs ls hP hD hS hl
    unfold BX7_table_101 at h
    obtain ⟨r8, thrown_8, hc8, h⟩ := bnd2_inv h
    have hFc := va_free (wc := (wM k aM Mestimate Munit Msort Mwidth Mmany Mreading Mvariance Mcovariance Mline Mformulas Mroot Mkind Mone Mother Msigns Mplace MleftOf MrightOf Mtype Msum Msign MsignAt Mproduct Mvalue Mslope Mexponent Mdrawn Mslopes Mfrom Mfactor Mthrown Mlength Mmodels Mopen Mat Mrows Mx)) hD hS hA [0, 1, 2, 3, 4, 5, 6, 7, 8, 9, 10, 11, 12, 13, 14, 15, 16, 17, 18, 19, 20, 21, 22, 23, 24, 25, 26, 27, 28, 29, 30] rfl
    refine xc_i (va_runV (As := [.int s1]) (rest := []) ⟨hx, hb, hml, hown, hts⟩ (met_X7_holds l D k  aM H.size Mestimate Munit Msort Mwidth Mmany Mreading Mvariance Mcovariance Mline Mformulas Mroot Mkind Mone Mother Msigns Mplace MleftOf MrightOf Mtype Msum Msign MsignAt Mproduct Mvalue Mslope Mexponent Mdrawn Mslopes Mfrom Mfactor Mthrown Mlength Mmodels Mopen Mat Mrows Mx s1 r8 thrown_8 hc8) (cwV 1 hts gX7_table_X7_holds rfl rfl rfl (by decide +kernel) ⟨Nat.le_of_ble_eq_true rfl, Nat.le_of_ble_eq_true rfl⟩) ⟨pw_blind, va_recv hK hP (ci := 7) (q0 := 0) rfl rfl, pw_start hP hK hD⟩ rfl rfl hl.1 rfl (lv_room (Nat.le_of_ble_eq_true rfl)) dX7_table_101 ⟨Nat.zero_le _, Nat.zero_le _⟩) hS hFc (fun H1 locs hP1 hD1 hk1 hS => ?_)
    obtain ⟨hP, hD⟩ := vj_all hFc hP1 hD1
    clear hP1 hD1 hk1 hFc
    generalize H1 = H at hP hS ⊢
    refine lv_if_ne (tgt := 109) hx hb dX7_table_104 (by decide) (fun c9 => ?_) (fun c9 => ?_)
    · replace h := sf_f c9 h
      refine lv_iload_n hx hb dX7_table_109 rfl (lv_at hl 2 rfl) ?_
      refine lv_iconst (v := -1) hx hb dX7_table_110 (by decide) ?_
      refine lv_icmp_ne (tgt := 173) hx hb dX7_table_111 (by decide) (fun c10 => ?_) (fun c10 => ?_)
      · replace h := sf_f c10 h
        refine lv_iload_n hx hb dX7_table_173 rfl (lv_at hl 3 rfl) ?_
        refine lv_iconst (v := -1) hx hb dX7_table_174 (by decide) ?_
        refine lv_icmp_ne (tgt := 185) hx hb dX7_table_175 (by decide) (fun c11 => ?_) (fun c11 => ?_)
        · replace h := sf_f c11 h
          refine lv_iload_n hx hb dX7_table_185 rfl (lv_at hl 3 rfl) ?_
          exact BH_186  _ _ _ _ _ _ h _ _ _ hP hD hS (lv_sub hl [0, 1, 2, 3] rfl)
        · replace h := sf_t c11 h
          refine lv_aload_n hx hb dX7_table_178 rfl (lv_at hl 0 rfl) ?_
          refine va_get (D := D) (ci := 7) (v := .int Mrows) (C := RX7) (T := TX7) (N := 37) hx hb hts iX7 hown hK hP 0 rfl rfl 33 (by decide) f95 (fun _ h9 => h9) rfl dX7_table_179 ?_
          refine lv_goto (tgt := 186) hx hb dX7_table_182 (by decide) ?_
          exact BH_186  _ _ _ _ _ _ h _ _ _ hP hD hS (lv_sub hl [0, 1, 2, 3] rfl)
      · replace h := sf_t c10 h
        refine lv_aload_n hx hb dX7_table_114 rfl (lv_at hl 0 rfl) ?_
        refine lv_dup hx hb dX7_table_115 rfl ?_
        refine va_get (D := D) (ci := 7) (v := .int Mrows) (C := RX7) (T := TX7) (N := 37) hx hb hts iX7 hown hK hP 0 rfl rfl 33 (by decide) f95 (fun _ h9 => h9) rfl dX7_table_116 ?_
        refine lv_iload_n hx hb dX7_table_119 rfl (lv_at hl 3 rfl) ?_
        refine lv_iconst (v := -1) hx hb dX7_table_120 (by decide) ?_
        refine lv_icmp_ne (tgt := 128) hx hb dX7_table_121 (by decide) (fun c15 => ?_) (fun c15 => ?_)
        · replace h := sf_f c15 h
          refine lv_iconst (v := 1) hx hb dX7_table_128 (by decide) ?_
          exact BH_129  _ _ _ _ _ _ _ h _ _ _ hP hD hS (lv_sub hl [0, 3] rfl)
        · replace h := sf_t c15 h
          refine lv_iconst (v := 0) hx hb dX7_table_124 (by decide) ?_
          refine lv_goto (tgt := 129) hx hb dX7_table_125 (by decide) ?_
          exact BH_129  _ _ _ _ _ _ _ h _ _ _ hP hD hS (lv_sub hl [0, 3] rfl)
    · replace h := sf_t c9 h
      refine lv_iconst (v := 0) hx hb dX7_table_107 (by decide) ?_
      have hP9 := hP
      have hD9 := hD
      have hS9 := hS
      subst hQ
      cases h
      exact W.iret hx hb hr (fun t ht hW => ⟨⟨_, (), rfl, rfl, by rw [ht]; exact hP9, va_K.moved hW.alike hK, hD9⟩, hS9.F ht⟩) hS9.2.2 dX7_table_108
  have BH_100 : ∀ (v3 : Int32) (Mfrom : Nat → Int32) (Mfactor : Nat → Int32) (Mthrown : Int32) (Mrows : Int32), BX7_table_100 v1 v2 v3 Mfrom Mfactor Mthrown Mrows = some (r, RMfrom, RMfactor, RMthrown, RMrows) → ∀ (H : Heap) (locs : List Loc) (ls : Array Slot), va_P D vwCl (wM k aM Mestimate Munit Msort Mwidth Mmany Mreading Mvariance Mcovariance Mline Mformulas Mroot Mkind Mone Mother Msigns Mplace MleftOf MrightOf Mtype Msum Msign MsignAt Mproduct Mvalue Mslope Mexponent Mdrawn Mslopes Mfrom Mfactor Mthrown Mlength Mmodels Mopen Mat Mrows Mx) H → va_D A (wM k aM Mestimate Munit Msort Mwidth Mmany Mreading Mvariance Mcovariance Mline Mformulas Mroot Mkind Mone Mother Msigns Mplace MleftOf MrightOf Mtype Msum Msign MsignAt Mproduct Mvalue Mslope Mexponent Mdrawn Mslopes Mfrom Mfactor Mthrown Mlength Mmodels Mopen Mat Mrows Mx) → va_S A s.heap H locs → lv_has ls 6 [(0, .ref (aM 0)), (1, .int v1), (2, .int v2), (3, .int v3)] → W p l e rmX7_table s m args below meth c H locs 0 0 Q (F0 m 100 ls [.ref (aM 0)]) := by
    intro  v3 Mfrom Mfactor Mthrown Mrows h H locs ls hP hD hS hl
    unfold BX7_table_100 at h
    refine lv_iconst (v := 0) hx hb dX7_table_100 (by decide) ?_
    exact BH_101  _ _ _ _ _ _ h _ _ _ hP hD hS (lv_sub hl [0, 1, 2, 3] rfl)
  have BH_65 : ∀ (v3 : Int32) (s0 : Int32) (Mfrom : Nat → Int32) (Mfactor : Nat → Int32) (Mthrown : Int32) (Mrows : Int32), BX7_table_65 v1 v2 v3 s0 Mfrom Mfactor Mthrown Mrows = some (r, RMfrom, RMfactor, RMthrown, RMrows) → ∀ (H : Heap) (locs : List Loc) (ls : Array Slot), va_P D vwCl (wM k aM Mestimate Munit Msort Mwidth Mmany Mreading Mvariance Mcovariance Mline Mformulas Mroot Mkind Mone Mother Msigns Mplace MleftOf MrightOf Mtype Msum Msign MsignAt Mproduct Mvalue Mslope Mexponent Mdrawn Mslopes Mfrom Mfactor Mthrown Mlength Mmodels Mopen Mat Mrows Mx) H → va_D A (wM k aM Mestimate Munit Msort Mwidth Mmany Mreading Mvariance Mcovariance Mline Mformulas Mroot Mkind Mone Mother Msigns Mplace MleftOf MrightOf Mtype Msum Msign MsignAt Mproduct Mvalue Mslope Mexponent Mdrawn Mslopes Mfrom Mfactor Mthrown Mlength Mmodels Mopen Mat Mrows Mx) → va_S A s.heap H locs → lv_has ls 6 [(0, .ref (aM 0)), (1, .int v1), (2, .int v2), (3, .int v3)] → W p l e rmX7_table s m args below meth c H locs 0 0 Q (F0 m 65 ls [.int s0]) := by
    intro  v3 s0 Mfrom Mfactor Mthrown Mrows h H locs ls hP hD hS hl
    unfold BX7_table_65 at h
    refine lv_istore (lv' := [(4, .int s0), (0, .ref (aM 0)), (1, .int v1), (2, .int v2), (3, .int v3)]) hx hb dX7_table_65 hl (by decide) rfl (fun ls hl => ?_)
    refine lv_aload_n hx hb dX7_table_67 rfl (lv_at hl 1 rfl) ?_
    refine lv_iload hx hb dX7_table_68 (lv_at hl 0 rfl) ?_
    refine lv_if_ne (tgt := 77) hx hb dX7_table_70 (by decide) (fun c6 => ?_) (fun c6 => ?_)
    · replace h := sf_f c6 h
      refine lv_iload_n hx hb dX7_table_77 rfl (lv_at hl 4 rfl) ?_
      refine lv_iconst (v := -1) hx hb dX7_table_78 (by decide) ?_
      refine lv_icmp_ne (tgt := 100) hx hb dX7_table_79 (by decide) (fun c7 => ?_) (fun c7 => ?_)
      · replace h := sf_f c7 h
        exact BH_100  _ _ _ _ _ h _ _ _ hP hD hS (lv_sub hl [1, 2, 3, 4] rfl)
      · replace h := sf_t c7 h
        refine lv_iload_n hx hb dX7_table_82 rfl (lv_at hl 3 rfl) ?_
        refine lv_iconst (v := -1) hx hb dX7_table_83 (by decide) ?_
        refine lv_icmp_eq (tgt := 100) hx hb dX7_table_84 (by decide) (fun c21 => ?_) (fun c21 => ?_)
        · replace h := sf_t c21 h
          exact BH_100  _ _ _ _ _ h _ _ _ hP hD hS (lv_sub hl [1, 2, 3, 4] rfl)
        · replace h := sf_f c21 h
          refine lv_aload_n hx hb dX7_table_87 rfl (lv_at hl 1 rfl) ?_
          refine va_get (D := D) (ci := 7) (v := .int Mrows) (C := RX7) (T := TX7) (N := 37) hx hb hts iX7 hown hK hP 0 rfl rfl 33 (by decide) f95 (fun _ h9 => h9) rfl dX7_table_88 ?_
          refine lv_bipush (v := 12) hx hb dX7_table_91 (by decide) ?_
          refine lv_icmp_ne (tgt := 100) hx hb dX7_table_93 (by decide) (fun c22 => ?_) (fun c22 => ?_)
          · replace h := sf_f c22 h
            exact BH_100  _ _ _ _ _ h _ _ _ hP hD hS (lv_sub hl [1, 2, 3, 4] rfl)
          · replace h := sf_t c22 h
            refine lv_iconst (v := 2) hx hb dX7_table_96 (by decide) ?_
            refine lv_goto (tgt := 101) hx hb dX7_table_97 (by decide) ?_
            exact BH_101  _ _ _ _ _ _ h _ _ _ hP hD hS (lv_sub hl [1, 2, 3, 4] rfl)
    · replace h := sf_t c6 h
      refine lv_iconst (v := 1) hx hb dX7_table_73 (by decide) ?_
      refine lv_goto (tgt := 101) hx hb dX7_table_74 (by decide) ?_
      exact BH_101  _ _ _ _ _ _ h _ _ _ hP hD hS (lv_sub hl [1, 2, 3, 4] rfl)
  have BH_64 : ∀ (v3 : Int32) (Mfrom : Nat → Int32) (Mfactor : Nat → Int32) (Mthrown : Int32) (Mrows : Int32), BX7_table_64 v1 v2 v3 Mfrom Mfactor Mthrown Mrows = some (r, RMfrom, RMfactor, RMthrown, RMrows) → ∀ (H : Heap) (locs : List Loc) (ls : Array Slot), va_P D vwCl (wM k aM Mestimate Munit Msort Mwidth Mmany Mreading Mvariance Mcovariance Mline Mformulas Mroot Mkind Mone Mother Msigns Mplace MleftOf MrightOf Mtype Msum Msign MsignAt Mproduct Mvalue Mslope Mexponent Mdrawn Mslopes Mfrom Mfactor Mthrown Mlength Mmodels Mopen Mat Mrows Mx) H → va_D A (wM k aM Mestimate Munit Msort Mwidth Mmany Mreading Mvariance Mcovariance Mline Mformulas Mroot Mkind Mone Mother Msigns Mplace MleftOf MrightOf Mtype Msum Msign MsignAt Mproduct Mvalue Mslope Mexponent Mdrawn Mslopes Mfrom Mfactor Mthrown Mlength Mmodels Mopen Mat Mrows Mx) → va_S A s.heap H locs → lv_has ls 6 [(0, .ref (aM 0)), (1, .int v1), (2, .int v2), (3, .int v3)] → W p l e rmX7_table s m args below meth c H locs 0 0 Q (F0 m 64 ls []) := by
    intro  v3 Mfrom Mfactor Mthrown Mrows h H locs ls hP hD hS hl
    unfold BX7_table_64 at h
    refine lv_iconst (v := 0) hx hb dX7_table_64 (by decide) ?_
    exact BH_65  _ _ _ _ _ _ h _ _ _ hP hD hS (lv_sub hl [0, 1, 2, 3] rfl)
  suffices main : ∀ (H : Heap) (locs : List Loc) (ls : Array Slot), va_P D vwCl (wM k aM Mestimate Munit Msort Mwidth Mmany Mreading Mvariance Mcovariance Mline Mformulas Mroot Mkind Mone Mother Msigns Mplace MleftOf MrightOf Mtype Msum Msign MsignAt Mproduct Mvalue Mslope Mexponent Mdrawn Mslopes Mfrom Mfactor Mthrown Mlength Mmodels Mopen Mat Mrows Mx) H → va_D A (wM k aM Mestimate Munit Msort Mwidth Mmany Mreading Mvariance Mcovariance Mline Mformulas Mroot Mkind Mone Mother Msigns Mplace MleftOf MrightOf Mtype Msum Msign MsignAt Mproduct Mvalue Mslope Mexponent Mdrawn Mslopes Mfrom Mfactor Mthrown Mlength Mmodels Mopen Mat Mrows Mx) → va_S A s.heap H locs → lv_has ls 6 [(0, .ref (aM 0)), (1, .int v1), (2, .int v2)] → W p l e rmX7_table s m args below meth c H locs 0 0 Q (F0 m 0 ls []) from main _ _ _ hP hD hS hl
  clear hP hD hS hl ls hAe
  intro H locs ls hP hD hS hl
  refine lv_iconst (v := -1) hx hb dX7_table_0 (by decide) ?_
  refine lv_istore_n (lv' := [(3, .int ((-1))), (0, .ref (aM 0)), (1, .int v1), (2, .int v2)]) hx hb dX7_table_1 rfl hl (by decide) rfl (fun ls hl => ?_)
  refine lv_iconst (v := 0) hx hb dX7_table_2 (by decide) ?_
  refine lv_istore (lv' := [(4, .int 0), (3, .int ((-1))), (0, .ref (aM 0)), (1, .int v1), (2, .int v2)]) hx hb dX7_table_3 hl (by decide) rfl (fun ls hl => ?_)
  refine LH_5 _ (fun v3 Mfrom Mfactor Mthrown Mrows h H locs ls hP hD hS hl => ?_) _ _ _ _ _ _ _ h _ _ _ hP hD hS (lv_sub hl [2, 3, 4, 1, 0] rfl)
  · skip
    refine lv_iload_n hx hb dX7_table_38 rfl (lv_at hl 1 rfl) ?_
    refine lv_iconst (v := 1) hx hb dX7_table_39 (by decide) ?_
    refine lv_sipush (v := 9999) hx hb dX7_table_40 (by decide) ?_
    obtain ⟨r4, hc4, h⟩ := bnd1_inv h
    have hPc := hP.sub (ws' := ([] : va_W)) [] rfl
    have hDc := hD.sub (ws' := ([] : va_W)) [] rfl rfl
    have hFc := va_free (wc := ([] : va_W)) hD hS hA [] rfl
    refine xc_i (va_runS (As := [.int v1, .int 1, .int 9999]) (rest := []) ⟨hx, hb, hml, hown, hts⟩ (met_X7_isIn l D k  H.size v1 1 9999 r4 hc4) (va_cwS 3 hts gX7_table_X7_isIn rfl rfl rfl (by decide +kernel) ⟨Nat.le_of_ble_eq_true rfl, Nat.le_of_ble_eq_true rfl⟩) ⟨pw_blind, pw_start hPc hK hDc⟩ rfl rfl hl.1 rfl (lv_room (Nat.le_of_ble_eq_true rfl)) dX7_table_43 ⟨Nat.zero_le _, Nat.zero_le _⟩) hS hFc (fun H1 locs hP1 hD1 hk1 hS => ?_)
    obtain ⟨hP, hD⟩ := vj (ws' := (wM k aM Mestimate Munit Msort Mwidth Mmany Mreading Mvariance Mcovariance Mline Mformulas Mroot Mkind Mone Mother Msigns Mplace MleftOf MrightOf Mtype Msum Msign MsignAt Mproduct Mvalue Mslope Mexponent Mdrawn Mslopes Mfrom Mfactor Mthrown Mlength Mmodels Mopen Mat Mrows Mx)) (w1 := ([] : va_W)) hP hD [] [0, 1, 2, 3, 4, 5, 6, 7, 8, 9, 10, 11, 12, 13, 14, 15, 16, 17, 18, 19, 20, 21, 22, 23, 24, 25, 26, 27, 28, 29, 30] [0, 1, 2, 3, 4, 5, 6, 7, 8, 9, 10, 11, 12, 13, 14, 15, 16, 17, 18, 19, 20, 21, 22, 23, 24, 25, 26, 27, 28, 29, 30] rfl rfl rfl rfl rfl hk1 hFc hP1 hD1
    clear hP1 hD1 hk1 hFc
    generalize H1 = H at hP hS ⊢
    refine lv_if_eq (tgt := 64) hx hb dX7_table_46 (by decide) (fun c5 => ?_) (fun c5 => ?_)
    · replace h := sf_t c5 h
      exact BH_64  _ _ _ _ _ h _ _ _ hP hD hS (lv_sub hl [0, 1, 2, 3] rfl)
    · replace h := sf_f c5 h
      refine lv_iload_n hx hb dX7_table_49 rfl (lv_at hl 2 rfl) ?_
      refine lv_iconst (v := -1) hx hb dX7_table_50 (by decide) ?_
      refine lv_sipush (v := 999) hx hb dX7_table_51 (by decide) ?_
      obtain ⟨r23, hc23, h⟩ := bnd1_inv h
      have hPc := hP.sub (ws' := ([] : va_W)) [] rfl
      have hDc := hD.sub (ws' := ([] : va_W)) [] rfl rfl
      have hFc := va_free (wc := ([] : va_W)) hD hS hA [] rfl
      refine xc_i (va_runS (As := [.int v2, .int ((-1)), .int 999]) (rest := []) ⟨hx, hb, hml, hown, hts⟩ (met_X7_isIn l D k  H.size v2 ((-1)) 999 r23 hc23) (va_cwS 3 hts gX7_table_X7_isIn rfl rfl rfl (by decide +kernel) ⟨Nat.le_of_ble_eq_true rfl, Nat.le_of_ble_eq_true rfl⟩) ⟨pw_blind, pw_start hPc hK hDc⟩ rfl rfl hl.1 rfl (lv_room (Nat.le_of_ble_eq_true rfl)) dX7_table_54 ⟨Nat.zero_le _, Nat.zero_le _⟩) hS hFc (fun H1 locs hP1 hD1 hk1 hS => ?_)
      obtain ⟨hP, hD⟩ := vj (ws' := (wM k aM Mestimate Munit Msort Mwidth Mmany Mreading Mvariance Mcovariance Mline Mformulas Mroot Mkind Mone Mother Msigns Mplace MleftOf MrightOf Mtype Msum Msign MsignAt Mproduct Mvalue Mslope Mexponent Mdrawn Mslopes Mfrom Mfactor Mthrown Mlength Mmodels Mopen Mat Mrows Mx)) (w1 := ([] : va_W)) hP hD [] [0, 1, 2, 3, 4, 5, 6, 7, 8, 9, 10, 11, 12, 13, 14, 15, 16, 17, 18, 19, 20, 21, 22, 23, 24, 25, 26, 27, 28, 29, 30] [0, 1, 2, 3, 4, 5, 6, 7, 8, 9, 10, 11, 12, 13, 14, 15, 16, 17, 18, 19, 20, 21, 22, 23, 24, 25, 26, 27, 28, 29, 30] rfl rfl rfl rfl rfl hk1 hFc hP1 hD1
      clear hP1 hD1 hk1 hFc
      generalize H1 = H at hP hS ⊢
      refine lv_if_eq (tgt := 64) hx hb dX7_table_57 (by decide) (fun c24 => ?_) (fun c24 => ?_)
      · replace h := sf_t c24 h
        exact BH_64  _ _ _ _ _ h _ _ _ hP hD hS (lv_sub hl [0, 1, 2, 3] rfl)
      · replace h := sf_f c24 h
        refine lv_iconst (v := 1) hx hb dX7_table_60 (by decide) ?_
        refine lv_goto (tgt := 65) hx hb dX7_table_61 (by decide) ?_
        exact BH_65  _ _ _ _ _ _ h _ _ _ hP hD hS (lv_sub hl [0, 1, 2, 3] rfl)
def BX7_seed_16 (v1 : Int32)  (s1 : Int32) (Mthrown : Int32) (Mx : Int32) : Option (Int32 × Int32 × Int32) := bnd2 (fX7_holds s1 Mthrown) (fun r3 thrown_3 => (if r3 = 0 then some (0, thrown_3, Mx) else some (Mx, thrown_3, v1)))
def fX7_seed (v1 : Int32) (Mthrown : Int32) (Mx : Int32) : Option (Int32 × Int32 × Int32) := bnd1 (fX7_isIn v1 0 65536) (fun r1 => (if r1 = 0 then BX7_seed_16 v1 1 Mthrown Mx else BX7_seed_16 v1 0 Mthrown Mx))
abbrev rmX7_seed : Room := { frames := 1, cells := 0, slots := 0, locals := 22 }
set_option maxHeartbeats 4000000 in
set_option maxRecDepth 100000 in
theorem met_X7_seed (l : Launch) (D : va_G) (k : Nat → ClassId)  (aM : Nat → Nat) (sz : Nat) (Mestimate : Nat → Int32) (Munit : Nat → Int32) (Msort : Nat → Int32) (Mwidth : Nat → Int32) (Mmany : Nat → Int32) (Mreading : Nat → Int32) (Mvariance : Nat → Int32) (Mcovariance : Nat → Int32) (Mline : Nat → Int32) (Mformulas : Nat → Int32) (Mroot : Nat → Int32) (Mkind : Nat → Int32) (Mone : Nat → Int32) (Mother : Nat → Int32) (Msigns : Nat → Int32) (Mplace : Nat → Int32) (MleftOf : Nat → Int32) (MrightOf : Nat → Int32) (Mtype : Nat → Int32) (Msum : Nat → Int32) (Msign : Nat → Int32) (MsignAt : Nat → Int32) (Mproduct : Nat → Int32) (Mvalue : Nat → Int64) (Mslope : Nat → Int64) (Mexponent : Nat → Int32) (Mdrawn : Nat → Int32) (Mslopes : Nat → Int64) (Mfrom : Nat → Int32) (Mfactor : Nat → Int32) (Mthrown : Int32) (Mlength : Int32) (Mmodels : Int32) (Mopen : Int32) (Mat : Int32) (Mrows : Int32) (Mx : Int32) (v1 : Int32) (r : Int32) (RMthrown : Int32) (RMx : Int32) (h : fX7_seed v1 Mthrown Mx = some (r, RMthrown, RMx)) : Met l yX7_seed wsX7_seed rmX7_seed (va_Pc [.ref (aM 0), .int v1] (PreW D k (wM k aM Mestimate Munit Msort Mwidth Mmany Mreading Mvariance Mcovariance Mline Mformulas Mroot Mkind Mone Mother Msigns Mplace MleftOf MrightOf Mtype Msum Msign MsignAt Mproduct Mvalue Mslope Mexponent Mdrawn Mslopes Mfrom Mfactor Mthrown Mlength Mmodels Mopen Mat Mrows Mx) sz)) (va_Qi (fun r9 (_ : Unit) => r9 = r) (fun _ t => PostW D k (va_A (wM k aM Mestimate Munit Msort Mwidth Mmany Mreading Mvariance Mcovariance Mline Mformulas Mroot Mkind Mone Mother Msigns Mplace MleftOf MrightOf Mtype Msum Msign MsignAt Mproduct Mvalue Mslope Mexponent Mdrawn Mslopes Mfrom Mfactor Mthrown Mlength Mmodels Mopen Mat Mrows Mx) sz) (wM k aM Mestimate Munit Msort Mwidth Mmany Mreading Mvariance Mcovariance Mline Mformulas Mroot Mkind Mone Mother Msigns Mplace MleftOf MrightOf Mtype Msum Msign MsignAt Mproduct Mvalue Mslope Mexponent Mdrawn Mslopes Mfrom Mfactor RMthrown Mlength Mmodels Mopen Mat Mrows RMx) t) (va_A (wM k aM Mestimate Munit Msort Mwidth Mmany Mreading Mvariance Mcovariance Mline Mformulas Mroot Mkind Mone Mother Msigns Mplace MleftOf MrightOf Mtype Msum Msign MsignAt Mproduct Mvalue Mslope Mexponent Mdrawn Mslopes Mfrom Mfactor Mthrown Mlength Mmodels Mopen Mat Mrows Mx) sz)) 0 0 (va_A (wM k aM Mestimate Munit Msort Mwidth Mmany Mreading Mvariance Mcovariance Mline Mformulas Mroot Mkind Mone Mother Msigns Mplace MleftOf MrightOf Mtype Msum Msign MsignAt Mproduct Mvalue Mslope Mexponent Mdrawn Mslopes Mfrom Mfactor Mthrown Mlength Mmodels Mopen Mat Mrows Mx) sz) := by
  refine Met.ofW (cc := cX7_seed) (maxL := 3) (ret := (some .int)) (by decide) rfl ?_
  intro p e s m args below meth c s₁ B hml hv
  obtain ⟨hav, hsz, hP, hK, hD0⟩ := hv
  have hx := B.exec
  have hb := B.bytes
  have hr := B.returns
  have hts := atoms_spec (ws := wsX7_seed) B.pre
  have hown : s.vm.findClass RX7 = some m.cls := findClass_of_methodNamed B.named
  have hlocks := B.notSynchronized
  subst hsz
  have hD := hD0.self (sz := s.heap.size)
  clear hD0
  generalize hAe : va_A (wM k aM Mestimate Munit Msort Mwidth Mmany Mreading Mvariance Mcovariance Mline Mformulas Mroot Mkind Mone Mother Msigns Mplace MleftOf MrightOf Mtype Msum Msign MsignAt Mproduct Mvalue Mslope Mexponent Mdrawn Mslopes Mfrom Mfactor Mthrown Mlength Mmodels Mopen Mat Mrows Mx) s.heap.size = A at hD ⊢
  have hA : ∀ q : Nat, s.heap.size ≤ q → A q := fun q h => by rw [← hAe]; exact Or.inr h
  have hS : va_S A s.heap s.heap [] := va_S.rf
  have hl := lv_entry ([.ref (aM 0), .int v1]) (n := 3) (Nat.le_of_ble_eq_true rfl)
  rw [show entryFrame m args 3 = entryFrame m ([.ref (aM 0), .int v1] : List Value).toArray 3 from by rw [hav], lg_entry_eq]
  generalize (lg_sl ([.ref (aM 0), .int v1]) ++ List.replicate (3 - (lg_sl ([.ref (aM 0), .int v1])).length) Slot.unset).toArray = ls at hl ⊢
  replace hl : lv_has ls 3 [(0, .ref (aM 0)), (1, .int v1)] := hl
  have f105 := hts (.fieldLink RX7 105 "UncertainBookModel" "x" "I") (by decide +kernel)
  have kc245 := hts (.constant RX7 245 (65536)) (by decide +kernel)
  have iX7 : ∀ w ∈ u_ws RX7 TX7 37, w ∈ wsX7_seed := by decide +kernel
  refine w_q (fun Q hQ => ?_)
  unfold fX7_seed at h
  show W p l e rmX7_seed s m args below meth c s.heap [] 0 0 Q (F0 m 0 ls [])
  have BH_16 : ∀ (s1 : Int32) (Mthrown : Int32) (Mx : Int32), BX7_seed_16 v1 s1 Mthrown Mx = some (r, RMthrown, RMx) → ∀ (H : Heap) (locs : List Loc) (ls : Array Slot), va_P D vwCl (wM k aM Mestimate Munit Msort Mwidth Mmany Mreading Mvariance Mcovariance Mline Mformulas Mroot Mkind Mone Mother Msigns Mplace MleftOf MrightOf Mtype Msum Msign MsignAt Mproduct Mvalue Mslope Mexponent Mdrawn Mslopes Mfrom Mfactor Mthrown Mlength Mmodels Mopen Mat Mrows Mx) H → va_D A (wM k aM Mestimate Munit Msort Mwidth Mmany Mreading Mvariance Mcovariance Mline Mformulas Mroot Mkind Mone Mother Msigns Mplace MleftOf MrightOf Mtype Msum Msign MsignAt Mproduct Mvalue Mslope Mexponent Mdrawn Mslopes Mfrom Mfactor Mthrown Mlength Mmodels Mopen Mat Mrows Mx) → va_S A s.heap H locs → lv_has ls 3 [(0, .ref (aM 0)), (1, .int v1)] → W p l e rmX7_seed s m args below meth c H locs 0 0 Q (F0 m 16 ls [.int s1, .ref (aM 0)]) := by
    intro  s1 Mthrown Mx h H locs ls hP hD hS hl
    unfold BX7_seed_16 at h
    obtain ⟨r3, thrown_3, hc3, h⟩ := bnd2_inv h
    have hFc := va_free (wc := (wM k aM Mestimate Munit Msort Mwidth Mmany Mreading Mvariance Mcovariance Mline Mformulas Mroot Mkind Mone Mother Msigns Mplace MleftOf MrightOf Mtype Msum Msign MsignAt Mproduct Mvalue Mslope Mexponent Mdrawn Mslopes Mfrom Mfactor Mthrown Mlength Mmodels Mopen Mat Mrows Mx)) hD hS hA [0, 1, 2, 3, 4, 5, 6, 7, 8, 9, 10, 11, 12, 13, 14, 15, 16, 17, 18, 19, 20, 21, 22, 23, 24, 25, 26, 27, 28, 29, 30] rfl
    refine xc_i (va_runV (As := [.int s1]) (rest := []) ⟨hx, hb, hml, hown, hts⟩ (met_X7_holds l D k  aM H.size Mestimate Munit Msort Mwidth Mmany Mreading Mvariance Mcovariance Mline Mformulas Mroot Mkind Mone Mother Msigns Mplace MleftOf MrightOf Mtype Msum Msign MsignAt Mproduct Mvalue Mslope Mexponent Mdrawn Mslopes Mfrom Mfactor Mthrown Mlength Mmodels Mopen Mat Mrows Mx s1 r3 thrown_3 hc3) (cwV 1 hts gX7_seed_X7_holds rfl rfl rfl (by decide +kernel) ⟨Nat.le_of_ble_eq_true rfl, Nat.le_of_ble_eq_true rfl⟩) ⟨pw_blind, va_recv hK hP (ci := 7) (q0 := 0) rfl rfl, pw_start hP hK hD⟩ rfl rfl hl.1 rfl (lv_room (Nat.le_of_ble_eq_true rfl)) dX7_seed_16 ⟨Nat.zero_le _, Nat.zero_le _⟩) hS hFc (fun H1 locs hP1 hD1 hk1 hS => ?_)
    obtain ⟨hP, hD⟩ := vj_all hFc hP1 hD1
    clear hP1 hD1 hk1 hFc
    generalize H1 = H at hP hS ⊢
    refine lv_if_ne (tgt := 24) hx hb dX7_seed_19 (by decide) (fun c4 => ?_) (fun c4 => ?_)
    · replace h := sf_f c4 h
      refine lv_aload_n hx hb dX7_seed_24 rfl (lv_at hl 0 rfl) ?_
      refine va_get (D := D) (ci := 7) (v := .int Mx) (C := RX7) (T := TX7) (N := 37) hx hb hts iX7 hown hK hP 0 rfl rfl 36 (by decide) f105 (fun _ h9 => h9) rfl dX7_seed_25 ?_
      refine lv_istore_n (lv' := [(2, .int Mx), (0, .ref (aM 0)), (1, .int v1)]) hx hb dX7_seed_28 rfl hl (by decide) rfl (fun ls hl => ?_)
      refine lv_aload_n hx hb dX7_seed_29 rfl (lv_at hl 1 rfl) ?_
      refine lv_iload_n hx hb dX7_seed_30 rfl (lv_at hl 2 rfl) ?_
      refine va_put (D := D) (ci := 7) (v := .int v1) (ty := .int) (C := RX7) (T := TX7) (N := 37) hx hb hts iX7 tyX7 tyX7_ok nmX7 hown hK hP hD hS 0 rfl rfl 36 (by decide) f105 (fun _ h9 => h9) rfl (by decide +kernel) rfl rfl (Nat.le_of_ble_eq_true rfl) dX7_seed_31 (fun H locs hP hD hS => ?_)
      replace hP : va_P D vwCl (wM k aM Mestimate Munit Msort Mwidth Mmany Mreading Mvariance Mcovariance Mline Mformulas Mroot Mkind Mone Mother Msigns Mplace MleftOf MrightOf Mtype Msum Msign MsignAt Mproduct Mvalue Mslope Mexponent Mdrawn Mslopes Mfrom Mfactor thrown_3 Mlength Mmodels Mopen Mat Mrows v1) H := hP
      replace hD : va_D A (wM k aM Mestimate Munit Msort Mwidth Mmany Mreading Mvariance Mcovariance Mline Mformulas Mroot Mkind Mone Mother Msigns Mplace MleftOf MrightOf Mtype Msum Msign MsignAt Mproduct Mvalue Mslope Mexponent Mdrawn Mslopes Mfrom Mfactor thrown_3 Mlength Mmodels Mopen Mat Mrows v1) := hD
      refine lv_iload_n hx hb dX7_seed_34 rfl (lv_at hl 0 rfl) ?_
      have hP9 := hP
      have hD9 := hD
      have hS9 := hS
      subst hQ
      cases h
      exact W.iret hx hb hr (fun t ht hW => ⟨⟨_, (), rfl, rfl, by rw [ht]; exact hP9, va_K.moved hW.alike hK, hD9⟩, hS9.F ht⟩) hS9.2.2 dX7_seed_35
    · replace h := sf_t c4 h
      refine lv_iconst (v := 0) hx hb dX7_seed_22 (by decide) ?_
      have hP9 := hP
      have hD9 := hD
      have hS9 := hS
      subst hQ
      cases h
      exact W.iret hx hb hr (fun t ht hW => ⟨⟨_, (), rfl, rfl, by rw [ht]; exact hP9, va_K.moved hW.alike hK, hD9⟩, hS9.F ht⟩) hS9.2.2 dX7_seed_23
  suffices main : ∀ (H : Heap) (locs : List Loc) (ls : Array Slot), va_P D vwCl (wM k aM Mestimate Munit Msort Mwidth Mmany Mreading Mvariance Mcovariance Mline Mformulas Mroot Mkind Mone Mother Msigns Mplace MleftOf MrightOf Mtype Msum Msign MsignAt Mproduct Mvalue Mslope Mexponent Mdrawn Mslopes Mfrom Mfactor Mthrown Mlength Mmodels Mopen Mat Mrows Mx) H → va_D A (wM k aM Mestimate Munit Msort Mwidth Mmany Mreading Mvariance Mcovariance Mline Mformulas Mroot Mkind Mone Mother Msigns Mplace MleftOf MrightOf Mtype Msum Msign MsignAt Mproduct Mvalue Mslope Mexponent Mdrawn Mslopes Mfrom Mfactor Mthrown Mlength Mmodels Mopen Mat Mrows Mx) → va_S A s.heap H locs → lv_has ls 3 [(0, .ref (aM 0)), (1, .int v1)] → W p l e rmX7_seed s m args below meth c H locs 0 0 Q (F0 m 0 ls []) from main _ _ _ hP hD hS hl
  clear hP hD hS hl ls hAe
  intro H locs ls hP hD hS hl
  refine lv_aload_n hx hb dX7_seed_0 rfl (lv_at hl 0 rfl) ?_
  refine lv_iload_n hx hb dX7_seed_1 rfl (lv_at hl 1 rfl) ?_
  refine lv_iconst (v := 0) hx hb dX7_seed_2 (by decide) ?_
  refine lv_ldc (v := 65536) hx hb hown kc245 dX7_seed_3 ?_
  obtain ⟨r1, hc1, h⟩ := bnd1_inv h
  have hPc := hP.sub (ws' := ([] : va_W)) [] rfl
  have hDc := hD.sub (ws' := ([] : va_W)) [] rfl rfl
  have hFc := va_free (wc := ([] : va_W)) hD hS hA [] rfl
  refine xc_i (va_runS (As := [.int v1, .int 0, .int 65536]) (rest := [.ref (aM 0)]) ⟨hx, hb, hml, hown, hts⟩ (met_X7_isIn l D k  H.size v1 0 65536 r1 hc1) (va_cwS 3 hts gX7_seed_X7_isIn rfl rfl rfl (by decide +kernel) ⟨Nat.le_of_ble_eq_true rfl, Nat.le_of_ble_eq_true rfl⟩) ⟨pw_blind, pw_start hPc hK hDc⟩ rfl rfl hl.1 rfl (lv_room (Nat.le_of_ble_eq_true rfl)) dX7_seed_5 ⟨Nat.zero_le _, Nat.zero_le _⟩) hS hFc (fun H1 locs hP1 hD1 hk1 hS => ?_)
  obtain ⟨hP, hD⟩ := vj (ws' := (wM k aM Mestimate Munit Msort Mwidth Mmany Mreading Mvariance Mcovariance Mline Mformulas Mroot Mkind Mone Mother Msigns Mplace MleftOf MrightOf Mtype Msum Msign MsignAt Mproduct Mvalue Mslope Mexponent Mdrawn Mslopes Mfrom Mfactor Mthrown Mlength Mmodels Mopen Mat Mrows Mx)) (w1 := ([] : va_W)) hP hD [] [0, 1, 2, 3, 4, 5, 6, 7, 8, 9, 10, 11, 12, 13, 14, 15, 16, 17, 18, 19, 20, 21, 22, 23, 24, 25, 26, 27, 28, 29, 30] [0, 1, 2, 3, 4, 5, 6, 7, 8, 9, 10, 11, 12, 13, 14, 15, 16, 17, 18, 19, 20, 21, 22, 23, 24, 25, 26, 27, 28, 29, 30] rfl rfl rfl rfl rfl hk1 hFc hP1 hD1
  clear hP1 hD1 hk1 hFc
  generalize H1 = H at hP hS ⊢
  refine lv_if_eq (tgt := 15) hx hb dX7_seed_8 (by decide) (fun c2 => ?_) (fun c2 => ?_)
  · replace h := sf_t c2 h
    refine lv_iconst (v := 1) hx hb dX7_seed_15 (by decide) ?_
    exact BH_16  _ _ _ h _ _ _ hP hD hS (lv_sub hl [0, 1] rfl)
  · replace h := sf_f c2 h
    refine lv_iconst (v := 0) hx hb dX7_seed_11 (by decide) ?_
    refine lv_goto (tgt := 16) hx hb dX7_seed_12 (by decide) ?_
    exact BH_16  _ _ _ h _ _ _ hP hD hS (lv_sub hl [0, 1] rfl)
def fX7_chance (Mx : Int32) : Option (Int32 × Int32) := some (jrem ((75 * Mx) + 74) 65537, jrem ((75 * Mx) + 74) 65537)
abbrev rmX7_chance : Room := { frames := 0, cells := 0, slots := 0, locals := 0 }
set_option maxHeartbeats 4000000 in
set_option maxRecDepth 100000 in
theorem met_X7_chance (l : Launch) (D : va_G) (k : Nat → ClassId)  (aM : Nat → Nat) (sz : Nat) (Mestimate : Nat → Int32) (Munit : Nat → Int32) (Msort : Nat → Int32) (Mwidth : Nat → Int32) (Mmany : Nat → Int32) (Mreading : Nat → Int32) (Mvariance : Nat → Int32) (Mcovariance : Nat → Int32) (Mline : Nat → Int32) (Mformulas : Nat → Int32) (Mroot : Nat → Int32) (Mkind : Nat → Int32) (Mone : Nat → Int32) (Mother : Nat → Int32) (Msigns : Nat → Int32) (Mplace : Nat → Int32) (MleftOf : Nat → Int32) (MrightOf : Nat → Int32) (Mtype : Nat → Int32) (Msum : Nat → Int32) (Msign : Nat → Int32) (MsignAt : Nat → Int32) (Mproduct : Nat → Int32) (Mvalue : Nat → Int64) (Mslope : Nat → Int64) (Mexponent : Nat → Int32) (Mdrawn : Nat → Int32) (Mslopes : Nat → Int64) (Mfrom : Nat → Int32) (Mfactor : Nat → Int32) (Mthrown : Int32) (Mlength : Int32) (Mmodels : Int32) (Mopen : Int32) (Mat : Int32) (Mrows : Int32) (Mx : Int32)  (r : Int32) (RMx : Int32) (h : fX7_chance Mx = some (r, RMx)) : Met l yX7_chance wsX7_chance rmX7_chance (va_Pc [.ref (aM 0)] (PreW D k (wM k aM Mestimate Munit Msort Mwidth Mmany Mreading Mvariance Mcovariance Mline Mformulas Mroot Mkind Mone Mother Msigns Mplace MleftOf MrightOf Mtype Msum Msign MsignAt Mproduct Mvalue Mslope Mexponent Mdrawn Mslopes Mfrom Mfactor Mthrown Mlength Mmodels Mopen Mat Mrows Mx) sz)) (va_Qi (fun r9 (_ : Unit) => r9 = r) (fun _ t => PostW D k (va_A (wM k aM Mestimate Munit Msort Mwidth Mmany Mreading Mvariance Mcovariance Mline Mformulas Mroot Mkind Mone Mother Msigns Mplace MleftOf MrightOf Mtype Msum Msign MsignAt Mproduct Mvalue Mslope Mexponent Mdrawn Mslopes Mfrom Mfactor Mthrown Mlength Mmodels Mopen Mat Mrows Mx) sz) (wM k aM Mestimate Munit Msort Mwidth Mmany Mreading Mvariance Mcovariance Mline Mformulas Mroot Mkind Mone Mother Msigns Mplace MleftOf MrightOf Mtype Msum Msign MsignAt Mproduct Mvalue Mslope Mexponent Mdrawn Mslopes Mfrom Mfactor Mthrown Mlength Mmodels Mopen Mat Mrows RMx) t) (va_A (wM k aM Mestimate Munit Msort Mwidth Mmany Mreading Mvariance Mcovariance Mline Mformulas Mroot Mkind Mone Mother Msigns Mplace MleftOf MrightOf Mtype Msum Msign MsignAt Mproduct Mvalue Mslope Mexponent Mdrawn Mslopes Mfrom Mfactor Mthrown Mlength Mmodels Mopen Mat Mrows Mx) sz)) 0 0 (va_A (wM k aM Mestimate Munit Msort Mwidth Mmany Mreading Mvariance Mcovariance Mline Mformulas Mroot Mkind Mone Mother Msigns Mplace MleftOf MrightOf Mtype Msum Msign MsignAt Mproduct Mvalue Mslope Mexponent Mdrawn Mslopes Mfrom Mfactor Mthrown Mlength Mmodels Mopen Mat Mrows Mx) sz) := by
  refine Met.ofW (cc := cX7_chance) (maxL := 1) (ret := (some .int)) (by decide) rfl ?_
  intro p e s m args below meth c s₁ B hml hv
  obtain ⟨hav, hsz, hP, hK, hD0⟩ := hv
  have hx := B.exec
  have hb := B.bytes
  have hr := B.returns
  have hts := atoms_spec (ws := wsX7_chance) B.pre
  have hown : s.vm.findClass RX7 = some m.cls := findClass_of_methodNamed B.named
  have hlocks := B.notSynchronized
  subst hsz
  have hD := hD0.self (sz := s.heap.size)
  clear hD0
  generalize hAe : va_A (wM k aM Mestimate Munit Msort Mwidth Mmany Mreading Mvariance Mcovariance Mline Mformulas Mroot Mkind Mone Mother Msigns Mplace MleftOf MrightOf Mtype Msum Msign MsignAt Mproduct Mvalue Mslope Mexponent Mdrawn Mslopes Mfrom Mfactor Mthrown Mlength Mmodels Mopen Mat Mrows Mx) s.heap.size = A at hD ⊢
  have hA : ∀ q : Nat, s.heap.size ≤ q → A q := fun q h => by rw [← hAe]; exact Or.inr h
  have hS : va_S A s.heap s.heap [] := va_S.rf
  have hl := lv_entry ([.ref (aM 0)]) (n := 1) (Nat.le_of_ble_eq_true rfl)
  rw [show entryFrame m args 1 = entryFrame m ([.ref (aM 0)] : List Value).toArray 1 from by rw [hav], lg_entry_eq]
  generalize (lg_sl ([.ref (aM 0)]) ++ List.replicate (1 - (lg_sl ([.ref (aM 0)])).length) Slot.unset).toArray = ls at hl ⊢
  replace hl : lv_has ls 1 [(0, .ref (aM 0))] := hl
  have f105 := hts (.fieldLink RX7 105 "UncertainBookModel" "x" "I") (by decide +kernel)
  have kc246 := hts (.constant RX7 246 (65537)) (by decide +kernel)
  have iX7 : ∀ w ∈ u_ws RX7 TX7 37, w ∈ wsX7_chance := by decide +kernel
  refine w_q (fun Q hQ => ?_)
  unfold fX7_chance at h
  show W p l e rmX7_chance s m args below meth c s.heap [] 0 0 Q (F0 m 0 ls [])
  suffices main : ∀ (H : Heap) (locs : List Loc) (ls : Array Slot), va_P D vwCl (wM k aM Mestimate Munit Msort Mwidth Mmany Mreading Mvariance Mcovariance Mline Mformulas Mroot Mkind Mone Mother Msigns Mplace MleftOf MrightOf Mtype Msum Msign MsignAt Mproduct Mvalue Mslope Mexponent Mdrawn Mslopes Mfrom Mfactor Mthrown Mlength Mmodels Mopen Mat Mrows Mx) H → va_D A (wM k aM Mestimate Munit Msort Mwidth Mmany Mreading Mvariance Mcovariance Mline Mformulas Mroot Mkind Mone Mother Msigns Mplace MleftOf MrightOf Mtype Msum Msign MsignAt Mproduct Mvalue Mslope Mexponent Mdrawn Mslopes Mfrom Mfactor Mthrown Mlength Mmodels Mopen Mat Mrows Mx) → va_S A s.heap H locs → lv_has ls 1 [(0, .ref (aM 0))] → W p l e rmX7_chance s m args below meth c H locs 0 0 Q (F0 m 0 ls []) from main _ _ _ hP hD hS hl
  clear hP hD hS hl ls hAe
  intro H locs ls hP hD hS hl
  refine lv_aload_n hx hb dX7_chance_0 rfl (lv_at hl 0 rfl) ?_
  refine lv_bipush (v := 75) hx hb dX7_chance_1 (by decide) ?_
  refine lv_aload_n hx hb dX7_chance_3 rfl (lv_at hl 0 rfl) ?_
  refine va_get (D := D) (ci := 7) (v := .int Mx) (C := RX7) (T := TX7) (N := 37) hx hb hts iX7 hown hK hP 0 rfl rfl 36 (by decide) f105 (fun _ h9 => h9) rfl dX7_chance_4 ?_
  refine lv_imul hx hb dX7_chance_7 ?_
  refine lv_bipush (v := 74) hx hb dX7_chance_8 (by decide) ?_
  refine lv_iadd hx hb dX7_chance_10 ?_
  refine lv_ldc (v := 65537) hx hb hown kc246 dX7_chance_11 ?_
  refine lv_irem hx hb dX7_chance_13 (by decide) ?_
  refine va_put (D := D) (ci := 7) (v := .int (jrem ((75 * Mx) + 74) 65537)) (ty := .int) (C := RX7) (T := TX7) (N := 37) hx hb hts iX7 tyX7 tyX7_ok nmX7 hown hK hP hD hS 0 rfl rfl 36 (by decide) f105 (fun _ h9 => h9) rfl (by decide +kernel) rfl rfl (Nat.le_of_ble_eq_true rfl) dX7_chance_14 (fun H locs hP hD hS => ?_)
  replace hP : va_P D vwCl (wM k aM Mestimate Munit Msort Mwidth Mmany Mreading Mvariance Mcovariance Mline Mformulas Mroot Mkind Mone Mother Msigns Mplace MleftOf MrightOf Mtype Msum Msign MsignAt Mproduct Mvalue Mslope Mexponent Mdrawn Mslopes Mfrom Mfactor Mthrown Mlength Mmodels Mopen Mat Mrows (jrem ((75 * Mx) + 74) 65537)) H := hP
  replace hD : va_D A (wM k aM Mestimate Munit Msort Mwidth Mmany Mreading Mvariance Mcovariance Mline Mformulas Mroot Mkind Mone Mother Msigns Mplace MleftOf MrightOf Mtype Msum Msign MsignAt Mproduct Mvalue Mslope Mexponent Mdrawn Mslopes Mfrom Mfactor Mthrown Mlength Mmodels Mopen Mat Mrows (jrem ((75 * Mx) + 74) 65537)) := hD
  refine lv_aload_n hx hb dX7_chance_17 rfl (lv_at hl 0 rfl) ?_
  refine va_get (D := D) (ci := 7) (v := .int (jrem ((75 * Mx) + 74) 65537)) (C := RX7) (T := TX7) (N := 37) hx hb hts iX7 hown hK hP 0 rfl rfl 36 (by decide) f105 (fun _ h9 => h9) rfl dX7_chance_18 ?_
  have hP9 := hP
  have hD9 := hD
  have hS9 := hS
  subst hQ
  cases h
  exact W.iret hx hb hr (fun t ht hW => ⟨⟨_, (), rfl, rfl, by rw [ht]; exact hP9, va_K.moved hW.alike hK, hD9⟩, hS9.F ht⟩) hS9.2.2 dX7_chance_21
def fX7_draws (v1 : Int32) (Mestimate : Nat → Int32) (Msort : Nat → Int32) (Mwidth : Nat → Int32) (Mmany : Nat → Int32) (Mreading : Nat → Int32) (Mx : Int32) : Option (Int32 × Int32) := gi v1 6 (gi v1 6 ((if (Msort v1.toNatClampNeg) = 1 then gi v1 6 (bnd2 (fX7_chance Mx) (fun r24 x_24 => gz ((2 * (Mwidth v1.toNatClampNeg)) + 1) (some (((Mestimate v1.toNatClampNeg) - (Mwidth v1.toNatClampNeg)) + (jrem r24 ((2 * (Mwidth v1.toNatClampNeg)) + 1)), x_24)))) else gi v1 6 ((if (Msort v1.toNatClampNeg) = 2 then bnd2 (fX7_chance Mx) (fun r18 x_18 => gz ((Mwidth v1.toNatClampNeg) + 1) (gi v1 6 (bnd2 (fX7_chance x_18) (fun r21 x_21 => gz ((Mwidth v1.toNatClampNeg) + 1) (some ((((Mestimate v1.toNatClampNeg) - (Mwidth v1.toNatClampNeg)) + (jrem r18 ((Mwidth v1.toNatClampNeg) + 1))) + (jrem r21 ((Mwidth v1.toNatClampNeg) + 1)), x_21)))))) else gi v1 6 ((if (Msort v1.toNatClampNeg) = 3 then gi v1 6 (bnd2 (fX7_chance Mx) (fun r16 x_16 => (if (jrem r16 2) = 0 then some ((Mestimate v1.toNatClampNeg) + (-(Mwidth v1.toNatClampNeg)), x_16) else some ((Mestimate v1.toNatClampNeg) + (Mwidth v1.toNatClampNeg), x_16)))) else gi v1 6 ((if (Msort v1.toNatClampNeg) = 4 then bnd2 (fX7_chance Mx) (fun r11 x_11 => gi v1 6 (gz (Mmany v1.toNatClampNeg) (gi ((8 * v1) + (jrem r11 (Mmany v1.toNatClampNeg))) 48 (some (Mreading ((8 * v1) + (jrem r11 (Mmany v1.toNatClampNeg))).toNatClampNeg, x_11))))) else gi v1 6 (some (Mestimate v1.toNatClampNeg, Mx)))))))))))
abbrev rmX7_draws : Room := { frames := 1, cells := 0, slots := 0, locals := 20 }
set_option maxHeartbeats 4000000 in
set_option maxRecDepth 100000 in
theorem met_X7_draws (l : Launch) (D : va_G) (k : Nat → ClassId)  (aM : Nat → Nat) (sz : Nat) (Mestimate : Nat → Int32) (Munit : Nat → Int32) (Msort : Nat → Int32) (Mwidth : Nat → Int32) (Mmany : Nat → Int32) (Mreading : Nat → Int32) (Mvariance : Nat → Int32) (Mcovariance : Nat → Int32) (Mline : Nat → Int32) (Mformulas : Nat → Int32) (Mroot : Nat → Int32) (Mkind : Nat → Int32) (Mone : Nat → Int32) (Mother : Nat → Int32) (Msigns : Nat → Int32) (Mplace : Nat → Int32) (MleftOf : Nat → Int32) (MrightOf : Nat → Int32) (Mtype : Nat → Int32) (Msum : Nat → Int32) (Msign : Nat → Int32) (MsignAt : Nat → Int32) (Mproduct : Nat → Int32) (Mvalue : Nat → Int64) (Mslope : Nat → Int64) (Mexponent : Nat → Int32) (Mdrawn : Nat → Int32) (Mslopes : Nat → Int64) (Mfrom : Nat → Int32) (Mfactor : Nat → Int32) (Mthrown : Int32) (Mlength : Int32) (Mmodels : Int32) (Mopen : Int32) (Mat : Int32) (Mrows : Int32) (Mx : Int32) (v1 : Int32) (r : Int32) (RMx : Int32) (h : fX7_draws v1 Mestimate Msort Mwidth Mmany Mreading Mx = some (r, RMx)) : Met l yX7_draws wsX7_draws rmX7_draws (va_Pc [.ref (aM 0), .int v1] (PreW D k (wM k aM Mestimate Munit Msort Mwidth Mmany Mreading Mvariance Mcovariance Mline Mformulas Mroot Mkind Mone Mother Msigns Mplace MleftOf MrightOf Mtype Msum Msign MsignAt Mproduct Mvalue Mslope Mexponent Mdrawn Mslopes Mfrom Mfactor Mthrown Mlength Mmodels Mopen Mat Mrows Mx) sz)) (va_Qi (fun r9 (_ : Unit) => r9 = r) (fun _ t => PostW D k (va_A (wM k aM Mestimate Munit Msort Mwidth Mmany Mreading Mvariance Mcovariance Mline Mformulas Mroot Mkind Mone Mother Msigns Mplace MleftOf MrightOf Mtype Msum Msign MsignAt Mproduct Mvalue Mslope Mexponent Mdrawn Mslopes Mfrom Mfactor Mthrown Mlength Mmodels Mopen Mat Mrows Mx) sz) (wM k aM Mestimate Munit Msort Mwidth Mmany Mreading Mvariance Mcovariance Mline Mformulas Mroot Mkind Mone Mother Msigns Mplace MleftOf MrightOf Mtype Msum Msign MsignAt Mproduct Mvalue Mslope Mexponent Mdrawn Mslopes Mfrom Mfactor Mthrown Mlength Mmodels Mopen Mat Mrows RMx) t) (va_A (wM k aM Mestimate Munit Msort Mwidth Mmany Mreading Mvariance Mcovariance Mline Mformulas Mroot Mkind Mone Mother Msigns Mplace MleftOf MrightOf Mtype Msum Msign MsignAt Mproduct Mvalue Mslope Mexponent Mdrawn Mslopes Mfrom Mfactor Mthrown Mlength Mmodels Mopen Mat Mrows Mx) sz)) 0 0 (va_A (wM k aM Mestimate Munit Msort Mwidth Mmany Mreading Mvariance Mcovariance Mline Mformulas Mroot Mkind Mone Mother Msigns Mplace MleftOf MrightOf Mtype Msum Msign MsignAt Mproduct Mvalue Mslope Mexponent Mdrawn Mslopes Mfrom Mfactor Mthrown Mlength Mmodels Mopen Mat Mrows Mx) sz) := by
  refine Met.ofW (cc := cX7_draws) (maxL := 4) (ret := (some .int)) (by decide) rfl ?_
  intro p e s m args below meth c s₁ B hml hv
  obtain ⟨hav, hsz, hP, hK, hD0⟩ := hv
  have hx := B.exec
  have hb := B.bytes
  have hr := B.returns
  have hts := atoms_spec (ws := wsX7_draws) B.pre
  have hown : s.vm.findClass RX7 = some m.cls := findClass_of_methodNamed B.named
  have hlocks := B.notSynchronized
  subst hsz
  have hD := hD0.self (sz := s.heap.size)
  clear hD0
  generalize hAe : va_A (wM k aM Mestimate Munit Msort Mwidth Mmany Mreading Mvariance Mcovariance Mline Mformulas Mroot Mkind Mone Mother Msigns Mplace MleftOf MrightOf Mtype Msum Msign MsignAt Mproduct Mvalue Mslope Mexponent Mdrawn Mslopes Mfrom Mfactor Mthrown Mlength Mmodels Mopen Mat Mrows Mx) s.heap.size = A at hD ⊢
  have hA : ∀ q : Nat, s.heap.size ≤ q → A q := fun q h => by rw [← hAe]; exact Or.inr h
  have hS : va_S A s.heap s.heap [] := va_S.rf
  have hl := lv_entry ([.ref (aM 0), .int v1]) (n := 4) (Nat.le_of_ble_eq_true rfl)
  rw [show entryFrame m args 4 = entryFrame m ([.ref (aM 0), .int v1] : List Value).toArray 4 from by rw [hav], lg_entry_eq]
  generalize (lg_sl ([.ref (aM 0), .int v1]) ++ List.replicate (4 - (lg_sl ([.ref (aM 0), .int v1])).length) Slot.unset).toArray = ls at hl ⊢
  replace hl : lv_has ls 4 [(0, .ref (aM 0)), (1, .int v1)] := hl
  have f7 := hts (.fieldLink RX7 7 "UncertainBookModel" "estimate" "[I") (by decide +kernel)
  have f16 := hts (.fieldLink RX7 16 "UncertainBookModel" "sort" "[I") (by decide +kernel)
  have f19 := hts (.fieldLink RX7 19 "UncertainBookModel" "width" "[I") (by decide +kernel)
  have f22 := hts (.fieldLink RX7 22 "UncertainBookModel" "many" "[I") (by decide +kernel)
  have f25 := hts (.fieldLink RX7 25 "UncertainBookModel" "reading" "[I") (by decide +kernel)
  have iX7 : ∀ w ∈ u_ws RX7 TX7 37, w ∈ wsX7_draws := by decide +kernel
  refine w_q (fun Q hQ => ?_)
  unfold fX7_draws at h
  show W p l e rmX7_draws s m args below meth c s.heap [] 0 0 Q (F0 m 0 ls [])
  suffices main : ∀ (H : Heap) (locs : List Loc) (ls : Array Slot), va_P D vwCl (wM k aM Mestimate Munit Msort Mwidth Mmany Mreading Mvariance Mcovariance Mline Mformulas Mroot Mkind Mone Mother Msigns Mplace MleftOf MrightOf Mtype Msum Msign MsignAt Mproduct Mvalue Mslope Mexponent Mdrawn Mslopes Mfrom Mfactor Mthrown Mlength Mmodels Mopen Mat Mrows Mx) H → va_D A (wM k aM Mestimate Munit Msort Mwidth Mmany Mreading Mvariance Mcovariance Mline Mformulas Mroot Mkind Mone Mother Msigns Mplace MleftOf MrightOf Mtype Msum Msign MsignAt Mproduct Mvalue Mslope Mexponent Mdrawn Mslopes Mfrom Mfactor Mthrown Mlength Mmodels Mopen Mat Mrows Mx) → va_S A s.heap H locs → lv_has ls 4 [(0, .ref (aM 0)), (1, .int v1)] → W p l e rmX7_draws s m args below meth c H locs 0 0 Q (F0 m 0 ls []) from main _ _ _ hP hD hS hl
  clear hP hD hS hl ls hAe
  intro H locs ls hP hD hS hl
  refine lv_aload_n hx hb dX7_draws_0 rfl (lv_at hl 0 rfl) ?_
  refine va_get (D := D) (ci := 7) (v := .ref (aM 4)) (C := RX7) (T := TX7) (N := 37) hx hb hts iX7 hown hK hP 0 rfl rfl 4 (by decide) f19 (fun _ h9 => h9) rfl dX7_draws_1 ?_
  refine lv_iload_n hx hb dX7_draws_4 rfl (lv_at hl 1 rfl) ?_
  obtain ⟨hi1, h⟩ := gi_inv h
  refine va_iald hx hb hK hP 4 0 rfl rfl hi1 dX7_draws_5 ?_
  refine lv_istore_n (lv' := [(2, .int (Mwidth v1.toNatClampNeg)), (0, .ref (aM 0)), (1, .int v1)]) hx hb dX7_draws_6 rfl hl (by decide) rfl (fun ls hl => ?_)
  refine lv_aload_n hx hb dX7_draws_7 rfl (lv_at hl 1 rfl) ?_
  refine va_get (D := D) (ci := 7) (v := .ref (aM 3)) (C := RX7) (T := TX7) (N := 37) hx hb hts iX7 hown hK hP 0 rfl rfl 3 (by decide) f16 (fun _ h9 => h9) rfl dX7_draws_8 ?_
  refine lv_iload_n hx hb dX7_draws_11 rfl (lv_at hl 2 rfl) ?_
  obtain ⟨hi2, h⟩ := gi_inv h
  refine va_iald hx hb hK hP 3 0 rfl rfl hi2 dX7_draws_12 ?_
  refine lv_iconst (v := 1) hx hb dX7_draws_13 (by decide) ?_
  refine lv_icmp_ne (tgt := 37) hx hb dX7_draws_14 (by decide) (fun c3 => ?_) (fun c3 => ?_)
  · replace h := sf_f c3 h
    refine lv_aload_n hx hb dX7_draws_37 rfl (lv_at hl 1 rfl) ?_
    refine va_get (D := D) (ci := 7) (v := .ref (aM 3)) (C := RX7) (T := TX7) (N := 37) hx hb hts iX7 hown hK hP 0 rfl rfl 3 (by decide) f16 (fun _ h9 => h9) rfl dX7_draws_38 ?_
    refine lv_iload_n hx hb dX7_draws_41 rfl (lv_at hl 2 rfl) ?_
    obtain ⟨hi4, h⟩ := gi_inv h
    refine va_iald hx hb hK hP 3 0 rfl rfl hi4 dX7_draws_42 ?_
    refine lv_iconst (v := 2) hx hb dX7_draws_43 (by decide) ?_
    refine lv_icmp_ne (tgt := 76) hx hb dX7_draws_44 (by decide) (fun c5 => ?_) (fun c5 => ?_)
    · replace h := sf_f c5 h
      refine lv_aload_n hx hb dX7_draws_76 rfl (lv_at hl 1 rfl) ?_
      refine va_get (D := D) (ci := 7) (v := .ref (aM 3)) (C := RX7) (T := TX7) (N := 37) hx hb hts iX7 hown hK hP 0 rfl rfl 3 (by decide) f16 (fun _ h9 => h9) rfl dX7_draws_77 ?_
      refine lv_iload_n hx hb dX7_draws_80 rfl (lv_at hl 2 rfl) ?_
      obtain ⟨hi6, h⟩ := gi_inv h
      refine va_iald hx hb hK hP 3 0 rfl rfl hi6 dX7_draws_81 ?_
      refine lv_iconst (v := 3) hx hb dX7_draws_82 (by decide) ?_
      refine lv_icmp_ne (tgt := 109) hx hb dX7_draws_83 (by decide) (fun c7 => ?_) (fun c7 => ?_)
      · replace h := sf_f c7 h
        refine lv_aload_n hx hb dX7_draws_109 rfl (lv_at hl 1 rfl) ?_
        refine va_get (D := D) (ci := 7) (v := .ref (aM 3)) (C := RX7) (T := TX7) (N := 37) hx hb hts iX7 hown hK hP 0 rfl rfl 3 (by decide) f16 (fun _ h9 => h9) rfl dX7_draws_110 ?_
        refine lv_iload_n hx hb dX7_draws_113 rfl (lv_at hl 2 rfl) ?_
        obtain ⟨hi8, h⟩ := gi_inv h
        refine va_iald hx hb hK hP 3 0 rfl rfl hi8 dX7_draws_114 ?_
        refine lv_iconst (v := 4) hx hb dX7_draws_115 (by decide) ?_
        refine lv_icmp_ne (tgt := 143) hx hb dX7_draws_116 (by decide) (fun c9 => ?_) (fun c9 => ?_)
        · replace h := sf_f c9 h
          refine lv_aload_n hx hb dX7_draws_143 rfl (lv_at hl 1 rfl) ?_
          refine va_get (D := D) (ci := 7) (v := .ref (aM 1)) (C := RX7) (T := TX7) (N := 37) hx hb hts iX7 hown hK hP 0 rfl rfl 1 (by decide) f7 (fun _ h9 => h9) rfl dX7_draws_144 ?_
          refine lv_iload_n hx hb dX7_draws_147 rfl (lv_at hl 2 rfl) ?_
          obtain ⟨hi10, h⟩ := gi_inv h
          refine va_iald hx hb hK hP 1 0 rfl rfl hi10 dX7_draws_148 ?_
          have hP9 := hP
          have hD9 := hD
          have hS9 := hS
          subst hQ
          cases h
          exact W.iret hx hb hr (fun t ht hW => ⟨⟨_, (), rfl, rfl, by rw [ht]; exact hP9, va_K.moved hW.alike hK, hD9⟩, hS9.F ht⟩) hS9.2.2 dX7_draws_149
        · replace h := sf_t c9 h
          refine lv_aload_n hx hb dX7_draws_119 rfl (lv_at hl 1 rfl) ?_
          refine va_get (D := D) (ci := 7) (v := .ref (aM 6)) (C := RX7) (T := TX7) (N := 37) hx hb hts iX7 hown hK hP 0 rfl rfl 6 (by decide) f25 (fun _ h9 => h9) rfl dX7_draws_120 ?_
          refine lv_bipush (v := 8) hx hb dX7_draws_123 (by decide) ?_
          refine lv_iload_n hx hb dX7_draws_125 rfl (lv_at hl 2 rfl) ?_
          refine lv_imul hx hb dX7_draws_126 ?_
          refine lv_aload_n hx hb dX7_draws_127 rfl (lv_at hl 1 rfl) ?_
          obtain ⟨r11, x_11, hc11, h⟩ := bnd2_inv h
          have hFc := va_free (wc := (wM k aM Mestimate Munit Msort Mwidth Mmany Mreading Mvariance Mcovariance Mline Mformulas Mroot Mkind Mone Mother Msigns Mplace MleftOf MrightOf Mtype Msum Msign MsignAt Mproduct Mvalue Mslope Mexponent Mdrawn Mslopes Mfrom Mfactor Mthrown Mlength Mmodels Mopen Mat Mrows Mx)) hD hS hA [0, 1, 2, 3, 4, 5, 6, 7, 8, 9, 10, 11, 12, 13, 14, 15, 16, 17, 18, 19, 20, 21, 22, 23, 24, 25, 26, 27, 28, 29, 30] rfl
          refine xc_i (va_runV (As := []) (rest := [.int (8 * v1), .ref (aM 6)]) ⟨hx, hb, hml, hown, hts⟩ (met_X7_chance l D k  aM H.size Mestimate Munit Msort Mwidth Mmany Mreading Mvariance Mcovariance Mline Mformulas Mroot Mkind Mone Mother Msigns Mplace MleftOf MrightOf Mtype Msum Msign MsignAt Mproduct Mvalue Mslope Mexponent Mdrawn Mslopes Mfrom Mfactor Mthrown Mlength Mmodels Mopen Mat Mrows Mx r11 x_11 hc11) (cwV 0 hts gX7_draws_X7_chance rfl rfl rfl (by decide +kernel) ⟨Nat.le_of_ble_eq_true rfl, Nat.le_of_ble_eq_true rfl⟩) ⟨pw_blind, va_recv hK hP (ci := 7) (q0 := 0) rfl rfl, pw_start hP hK hD⟩ rfl rfl hl.1 rfl (lv_room (Nat.le_of_ble_eq_true rfl)) dX7_draws_128 ⟨Nat.zero_le _, Nat.zero_le _⟩) hS hFc (fun H1 locs hP1 hD1 hk1 hS => ?_)
          obtain ⟨hP, hD⟩ := vj_all hFc hP1 hD1
          clear hP1 hD1 hk1 hFc
          generalize H1 = H at hP hS ⊢
          refine lv_aload_n hx hb dX7_draws_131 rfl (lv_at hl 1 rfl) ?_
          refine va_get (D := D) (ci := 7) (v := .ref (aM 5)) (C := RX7) (T := TX7) (N := 37) hx hb hts iX7 hown hK hP 0 rfl rfl 5 (by decide) f22 (fun _ h9 => h9) rfl dX7_draws_132 ?_
          refine lv_iload_n hx hb dX7_draws_135 rfl (lv_at hl 2 rfl) ?_
          obtain ⟨hi12, h⟩ := gi_inv h
          refine va_iald hx hb hK hP 5 0 rfl rfl hi12 dX7_draws_136 ?_
          obtain ⟨hz13, h⟩ := gz_inv h
          refine lv_irem hx hb dX7_draws_137 hz13 ?_
          refine lv_iadd hx hb dX7_draws_138 ?_
          obtain ⟨hi14, h⟩ := gi_inv h
          refine va_iald hx hb hK hP 6 0 rfl rfl hi14 dX7_draws_139 ?_
          refine lv_goto (tgt := 149) hx hb dX7_draws_140 (by decide) ?_
          have hP9 := hP
          have hD9 := hD
          have hS9 := hS
          subst hQ
          cases h
          exact W.iret hx hb hr (fun t ht hW => ⟨⟨_, (), rfl, rfl, by rw [ht]; exact hP9, va_K.moved hW.alike hK, hD9⟩, hS9.F ht⟩) hS9.2.2 dX7_draws_149
      · replace h := sf_t c7 h
        refine lv_aload_n hx hb dX7_draws_86 rfl (lv_at hl 1 rfl) ?_
        refine va_get (D := D) (ci := 7) (v := .ref (aM 1)) (C := RX7) (T := TX7) (N := 37) hx hb hts iX7 hown hK hP 0 rfl rfl 1 (by decide) f7 (fun _ h9 => h9) rfl dX7_draws_87 ?_
        refine lv_iload_n hx hb dX7_draws_90 rfl (lv_at hl 2 rfl) ?_
        obtain ⟨hi15, h⟩ := gi_inv h
        refine va_iald hx hb hK hP 1 0 rfl rfl hi15 dX7_draws_91 ?_
        refine lv_aload_n hx hb dX7_draws_92 rfl (lv_at hl 1 rfl) ?_
        obtain ⟨r16, x_16, hc16, h⟩ := bnd2_inv h
        have hFc := va_free (wc := (wM k aM Mestimate Munit Msort Mwidth Mmany Mreading Mvariance Mcovariance Mline Mformulas Mroot Mkind Mone Mother Msigns Mplace MleftOf MrightOf Mtype Msum Msign MsignAt Mproduct Mvalue Mslope Mexponent Mdrawn Mslopes Mfrom Mfactor Mthrown Mlength Mmodels Mopen Mat Mrows Mx)) hD hS hA [0, 1, 2, 3, 4, 5, 6, 7, 8, 9, 10, 11, 12, 13, 14, 15, 16, 17, 18, 19, 20, 21, 22, 23, 24, 25, 26, 27, 28, 29, 30] rfl
        refine xc_i (va_runV (As := []) (rest := [.int (Mestimate v1.toNatClampNeg)]) ⟨hx, hb, hml, hown, hts⟩ (met_X7_chance l D k  aM H.size Mestimate Munit Msort Mwidth Mmany Mreading Mvariance Mcovariance Mline Mformulas Mroot Mkind Mone Mother Msigns Mplace MleftOf MrightOf Mtype Msum Msign MsignAt Mproduct Mvalue Mslope Mexponent Mdrawn Mslopes Mfrom Mfactor Mthrown Mlength Mmodels Mopen Mat Mrows Mx r16 x_16 hc16) (cwV 0 hts gX7_draws_X7_chance rfl rfl rfl (by decide +kernel) ⟨Nat.le_of_ble_eq_true rfl, Nat.le_of_ble_eq_true rfl⟩) ⟨pw_blind, va_recv hK hP (ci := 7) (q0 := 0) rfl rfl, pw_start hP hK hD⟩ rfl rfl hl.1 rfl (lv_room (Nat.le_of_ble_eq_true rfl)) dX7_draws_93 ⟨Nat.zero_le _, Nat.zero_le _⟩) hS hFc (fun H1 locs hP1 hD1 hk1 hS => ?_)
        obtain ⟨hP, hD⟩ := vj_all hFc hP1 hD1
        clear hP1 hD1 hk1 hFc
        generalize H1 = H at hP hS ⊢
        refine lv_iconst (v := 2) hx hb dX7_draws_96 (by decide) ?_
        refine lv_irem hx hb dX7_draws_97 (by decide) ?_
        refine lv_if_ne (tgt := 106) hx hb dX7_draws_98 (by decide) (fun c17 => ?_) (fun c17 => ?_)
        · replace h := sf_f c17 h
          refine lv_iload_n hx hb dX7_draws_106 rfl (lv_at hl 0 rfl) ?_
          refine lv_iadd hx hb dX7_draws_107 ?_
          have hP9 := hP
          have hD9 := hD
          have hS9 := hS
          subst hQ
          cases h
          exact W.iret hx hb hr (fun t ht hW => ⟨⟨_, (), rfl, rfl, by rw [ht]; exact hP9, va_K.moved hW.alike hK, hD9⟩, hS9.F ht⟩) hS9.2.2 dX7_draws_108
        · replace h := sf_t c17 h
          refine lv_iload_n hx hb dX7_draws_101 rfl (lv_at hl 0 rfl) ?_
          refine lv_ineg hx hb dX7_draws_102 ?_
          refine lv_goto (tgt := 107) hx hb dX7_draws_103 (by decide) ?_
          refine lv_iadd hx hb dX7_draws_107 ?_
          have hP9 := hP
          have hD9 := hD
          have hS9 := hS
          subst hQ
          cases h
          exact W.iret hx hb hr (fun t ht hW => ⟨⟨_, (), rfl, rfl, by rw [ht]; exact hP9, va_K.moved hW.alike hK, hD9⟩, hS9.F ht⟩) hS9.2.2 dX7_draws_108
    · replace h := sf_t c5 h
      refine lv_aload_n hx hb dX7_draws_47 rfl (lv_at hl 1 rfl) ?_
      obtain ⟨r18, x_18, hc18, h⟩ := bnd2_inv h
      have hFc := va_free (wc := (wM k aM Mestimate Munit Msort Mwidth Mmany Mreading Mvariance Mcovariance Mline Mformulas Mroot Mkind Mone Mother Msigns Mplace MleftOf MrightOf Mtype Msum Msign MsignAt Mproduct Mvalue Mslope Mexponent Mdrawn Mslopes Mfrom Mfactor Mthrown Mlength Mmodels Mopen Mat Mrows Mx)) hD hS hA [0, 1, 2, 3, 4, 5, 6, 7, 8, 9, 10, 11, 12, 13, 14, 15, 16, 17, 18, 19, 20, 21, 22, 23, 24, 25, 26, 27, 28, 29, 30] rfl
      refine xc_i (va_runV (As := []) (rest := []) ⟨hx, hb, hml, hown, hts⟩ (met_X7_chance l D k  aM H.size Mestimate Munit Msort Mwidth Mmany Mreading Mvariance Mcovariance Mline Mformulas Mroot Mkind Mone Mother Msigns Mplace MleftOf MrightOf Mtype Msum Msign MsignAt Mproduct Mvalue Mslope Mexponent Mdrawn Mslopes Mfrom Mfactor Mthrown Mlength Mmodels Mopen Mat Mrows Mx r18 x_18 hc18) (cwV 0 hts gX7_draws_X7_chance rfl rfl rfl (by decide +kernel) ⟨Nat.le_of_ble_eq_true rfl, Nat.le_of_ble_eq_true rfl⟩) ⟨pw_blind, va_recv hK hP (ci := 7) (q0 := 0) rfl rfl, pw_start hP hK hD⟩ rfl rfl hl.1 rfl (lv_room (Nat.le_of_ble_eq_true rfl)) dX7_draws_48 ⟨Nat.zero_le _, Nat.zero_le _⟩) hS hFc (fun H1 locs hP1 hD1 hk1 hS => ?_)
      obtain ⟨hP, hD⟩ := vj_all hFc hP1 hD1
      clear hP1 hD1 hk1 hFc
      generalize H1 = H at hP hS ⊢
      refine lv_iload_n hx hb dX7_draws_51 rfl (lv_at hl 0 rfl) ?_
      refine lv_iconst (v := 1) hx hb dX7_draws_52 (by decide) ?_
      refine lv_iadd hx hb dX7_draws_53 ?_
      obtain ⟨hz19, h⟩ := gz_inv h
      refine lv_irem hx hb dX7_draws_54 hz19 ?_
      refine lv_istore_n (lv' := [(3, .int (jrem r18 ((Mwidth v1.toNatClampNeg) + 1))), (2, .int (Mwidth v1.toNatClampNeg)), (0, .ref (aM 0)), (1, .int v1)]) hx hb dX7_draws_55 rfl hl (by decide) rfl (fun ls hl => ?_)
      refine lv_aload_n hx hb dX7_draws_56 rfl (lv_at hl 2 rfl) ?_
      refine va_get (D := D) (ci := 7) (v := .ref (aM 1)) (C := RX7) (T := TX7) (N := 37) hx hb hts iX7 hown hK hP 0 rfl rfl 1 (by decide) f7 (fun _ h9 => h9) rfl dX7_draws_57 ?_
      refine lv_iload_n hx hb dX7_draws_60 rfl (lv_at hl 3 rfl) ?_
      obtain ⟨hi20, h⟩ := gi_inv h
      refine va_iald hx hb hK hP 1 0 rfl rfl hi20 dX7_draws_61 ?_
      refine lv_iload_n hx hb dX7_draws_62 rfl (lv_at hl 1 rfl) ?_
      refine lv_isub hx hb dX7_draws_63 ?_
      refine lv_iload_n hx hb dX7_draws_64 rfl (lv_at hl 0 rfl) ?_
      refine lv_iadd hx hb dX7_draws_65 ?_
      refine lv_aload_n hx hb dX7_draws_66 rfl (lv_at hl 2 rfl) ?_
      obtain ⟨r21, x_21, hc21, h⟩ := bnd2_inv h
      have hFc := va_free (wc := (wM k aM Mestimate Munit Msort Mwidth Mmany Mreading Mvariance Mcovariance Mline Mformulas Mroot Mkind Mone Mother Msigns Mplace MleftOf MrightOf Mtype Msum Msign MsignAt Mproduct Mvalue Mslope Mexponent Mdrawn Mslopes Mfrom Mfactor Mthrown Mlength Mmodels Mopen Mat Mrows x_18)) hD hS hA [0, 1, 2, 3, 4, 5, 6, 7, 8, 9, 10, 11, 12, 13, 14, 15, 16, 17, 18, 19, 20, 21, 22, 23, 24, 25, 26, 27, 28, 29, 30] rfl
      refine xc_i (va_runV (As := []) (rest := [.int (((Mestimate v1.toNatClampNeg) - (Mwidth v1.toNatClampNeg)) + (jrem r18 ((Mwidth v1.toNatClampNeg) + 1)))]) ⟨hx, hb, hml, hown, hts⟩ (met_X7_chance l D k  aM H.size Mestimate Munit Msort Mwidth Mmany Mreading Mvariance Mcovariance Mline Mformulas Mroot Mkind Mone Mother Msigns Mplace MleftOf MrightOf Mtype Msum Msign MsignAt Mproduct Mvalue Mslope Mexponent Mdrawn Mslopes Mfrom Mfactor Mthrown Mlength Mmodels Mopen Mat Mrows x_18 r21 x_21 hc21) (cwV 0 hts gX7_draws_X7_chance rfl rfl rfl (by decide +kernel) ⟨Nat.le_of_ble_eq_true rfl, Nat.le_of_ble_eq_true rfl⟩) ⟨pw_blind, va_recv hK hP (ci := 7) (q0 := 0) rfl rfl, pw_start hP hK hD⟩ rfl rfl hl.1 rfl (lv_room (Nat.le_of_ble_eq_true rfl)) dX7_draws_67 ⟨Nat.zero_le _, Nat.zero_le _⟩) hS hFc (fun H1 locs hP1 hD1 hk1 hS => ?_)
      obtain ⟨hP, hD⟩ := vj_all hFc hP1 hD1
      clear hP1 hD1 hk1 hFc
      generalize H1 = H at hP hS ⊢
      refine lv_iload_n hx hb dX7_draws_70 rfl (lv_at hl 1 rfl) ?_
      refine lv_iconst (v := 1) hx hb dX7_draws_71 (by decide) ?_
      refine lv_iadd hx hb dX7_draws_72 ?_
      obtain ⟨hz22, h⟩ := gz_inv h
      refine lv_irem hx hb dX7_draws_73 hz22 ?_
      refine lv_iadd hx hb dX7_draws_74 ?_
      have hP9 := hP
      have hD9 := hD
      have hS9 := hS
      subst hQ
      cases h
      exact W.iret hx hb hr (fun t ht hW => ⟨⟨_, (), rfl, rfl, by rw [ht]; exact hP9, va_K.moved hW.alike hK, hD9⟩, hS9.F ht⟩) hS9.2.2 dX7_draws_75
  · replace h := sf_t c3 h
    refine lv_aload_n hx hb dX7_draws_17 rfl (lv_at hl 1 rfl) ?_
    refine va_get (D := D) (ci := 7) (v := .ref (aM 1)) (C := RX7) (T := TX7) (N := 37) hx hb hts iX7 hown hK hP 0 rfl rfl 1 (by decide) f7 (fun _ h9 => h9) rfl dX7_draws_18 ?_
    refine lv_iload_n hx hb dX7_draws_21 rfl (lv_at hl 2 rfl) ?_
    obtain ⟨hi23, h⟩ := gi_inv h
    refine va_iald hx hb hK hP 1 0 rfl rfl hi23 dX7_draws_22 ?_
    refine lv_iload_n hx hb dX7_draws_23 rfl (lv_at hl 0 rfl) ?_
    refine lv_isub hx hb dX7_draws_24 ?_
    refine lv_aload_n hx hb dX7_draws_25 rfl (lv_at hl 1 rfl) ?_
    obtain ⟨r24, x_24, hc24, h⟩ := bnd2_inv h
    have hFc := va_free (wc := (wM k aM Mestimate Munit Msort Mwidth Mmany Mreading Mvariance Mcovariance Mline Mformulas Mroot Mkind Mone Mother Msigns Mplace MleftOf MrightOf Mtype Msum Msign MsignAt Mproduct Mvalue Mslope Mexponent Mdrawn Mslopes Mfrom Mfactor Mthrown Mlength Mmodels Mopen Mat Mrows Mx)) hD hS hA [0, 1, 2, 3, 4, 5, 6, 7, 8, 9, 10, 11, 12, 13, 14, 15, 16, 17, 18, 19, 20, 21, 22, 23, 24, 25, 26, 27, 28, 29, 30] rfl
    refine xc_i (va_runV (As := []) (rest := [.int ((Mestimate v1.toNatClampNeg) - (Mwidth v1.toNatClampNeg))]) ⟨hx, hb, hml, hown, hts⟩ (met_X7_chance l D k  aM H.size Mestimate Munit Msort Mwidth Mmany Mreading Mvariance Mcovariance Mline Mformulas Mroot Mkind Mone Mother Msigns Mplace MleftOf MrightOf Mtype Msum Msign MsignAt Mproduct Mvalue Mslope Mexponent Mdrawn Mslopes Mfrom Mfactor Mthrown Mlength Mmodels Mopen Mat Mrows Mx r24 x_24 hc24) (cwV 0 hts gX7_draws_X7_chance rfl rfl rfl (by decide +kernel) ⟨Nat.le_of_ble_eq_true rfl, Nat.le_of_ble_eq_true rfl⟩) ⟨pw_blind, va_recv hK hP (ci := 7) (q0 := 0) rfl rfl, pw_start hP hK hD⟩ rfl rfl hl.1 rfl (lv_room (Nat.le_of_ble_eq_true rfl)) dX7_draws_26 ⟨Nat.zero_le _, Nat.zero_le _⟩) hS hFc (fun H1 locs hP1 hD1 hk1 hS => ?_)
    obtain ⟨hP, hD⟩ := vj_all hFc hP1 hD1
    clear hP1 hD1 hk1 hFc
    generalize H1 = H at hP hS ⊢
    refine lv_iconst (v := 2) hx hb dX7_draws_29 (by decide) ?_
    refine lv_iload_n hx hb dX7_draws_30 rfl (lv_at hl 0 rfl) ?_
    refine lv_imul hx hb dX7_draws_31 ?_
    refine lv_iconst (v := 1) hx hb dX7_draws_32 (by decide) ?_
    refine lv_iadd hx hb dX7_draws_33 ?_
    obtain ⟨hz25, h⟩ := gz_inv h
    refine lv_irem hx hb dX7_draws_34 hz25 ?_
    refine lv_iadd hx hb dX7_draws_35 ?_
    have hP9 := hP
    have hD9 := hD
    have hS9 := hS
    subst hQ
    cases h
    exact W.iret hx hb hr (fun t ht hW => ⟨⟨_, (), rfl, rfl, by rw [ht]; exact hP9, va_K.moved hW.alike hK, hD9⟩, hS9.F ht⟩) hS9.2.2 dX7_draws_36
def LX7_draw_73 (Mestimate : Nat → Int32) (Msort : Nat → Int32) (Mwidth : Nat → Int32) (Mmany : Nat → Int32) (Mreading : Nat → Int32) (Mvariance : Nat → Int32) (Mcovariance : Nat → Int32) (Mformulas : Nat → Int32) (Mroot : Nat → Int32) (Mkind : Nat → Int32) (Mone : Nat → Int32) (Mother : Nat → Int32) (Mfrom : Nat → Int32) (Mfactor : Nat → Int32) (Mmodels : Int32) (Mrows : Int32) (v1 : Int32) (v2 : Int32) (E99 : Int64 → Int64 → Int32 → Int32 → (Nat → Int64) → (Nat → Int64) → (Nat → Int32) → (Nat → Int64) → Int32 → Int32 → Option (Int32 × (Nat → Int64) × (Nat → Int64) × (Nat → Int32) × (Nat → Int64) × Int32 × Int32)) : Nat → Int64 → Int64 → Int32 → Int32 → Int32 → (Nat → Int64) → (Nat → Int64) → (Nat → Int32) → (Nat → Int64) → Int32 → Int32 → Option (Int32 × (Nat → Int64) × (Nat → Int64) × (Nat → Int32) × (Nat → Int64) × Int32 × Int32)
  | 0, _, _, _, _, _, _, _, _, _, _, _ => none
  | fuel + 1, v3, v5, v7, v8, v9, Mvalue, Mslope, Mdrawn, Mslopes, Mthrown, Mx => (if 6 ≤ v9 then E99 v3 v5 v7 v8 Mvalue Mslope Mdrawn Mslopes Mthrown Mx else bnd2 (fX7_draws v9 Mestimate Msort Mwidth Mmany Mreading Mx) (fun r13 x_13 => gi v9 6 (LX7_draw_73 Mestimate Msort Mwidth Mmany Mreading Mvariance Mcovariance Mformulas Mroot Mkind Mone Mother Mfrom Mfactor Mmodels Mrows v1 v2 E99 fuel v3 v5 v7 v8 (v9 + 1) Mvalue Mslope (upd Mdrawn (v9.toNatClampNeg) r13) Mslopes Mthrown x_13)))
def BX7_draw_140 (Mestimate : Nat → Int32) (Msort : Nat → Int32) (Mwidth : Nat → Int32) (Mmany : Nat → Int32) (Mreading : Nat → Int32) (Mvariance : Nat → Int32) (Mcovariance : Nat → Int32) (Mformulas : Nat → Int32) (Mroot : Nat → Int32) (Mkind : Nat → Int32) (Mone : Nat → Int32) (Mother : Nat → Int32) (Mfrom : Nat → Int32) (Mfactor : Nat → Int32) (Mmodels : Int32) (Mrows : Int32) (v1 : Int32) (v2 : Int32) (K : Int64 → Int64 → Int32 → Int32 → (Nat → Int64) → (Nat → Int64) → (Nat → Int32) → (Nat → Int64) → Int32 → Int32 → Option (Int32 × (Nat → Int64) × (Nat → Int64) × (Nat → Int32) × (Nat → Int64) × Int32 × Int32)) (E149 : Int32 → (Nat → Int64) → (Nat → Int64) → (Nat → Int32) → (Nat → Int64) → Int32 → Int32 → Option (Int32 × (Nat → Int64) × (Nat → Int64) × (Nat → Int32) × (Nat → Int64) × Int32 × Int32)) (v3 : Int64) (v5 : Int64) (v8 : Int32) (s0 : Int32) (s1 : Int32) (Mvalue : Nat → Int64) (Mslope : Nat → Int64) (Mdrawn : Nat → Int32) (Mslopes : Nat → Int64) (Mthrown : Int32) (Mx : Int32) : Option (Int32 × (Nat → Int64) × (Nat → Int64) × (Nat → Int32) × (Nat → Int64) × Int32 × Int32) := K v3 v5 (s0 + s1) (v8 + 1) Mvalue Mslope Mdrawn Mslopes Mthrown Mx
def BX7_draw_139 (Mestimate : Nat → Int32) (Msort : Nat → Int32) (Mwidth : Nat → Int32) (Mmany : Nat → Int32) (Mreading : Nat → Int32) (Mvariance : Nat → Int32) (Mcovariance : Nat → Int32) (Mformulas : Nat → Int32) (Mroot : Nat → Int32) (Mkind : Nat → Int32) (Mone : Nat → Int32) (Mother : Nat → Int32) (Mfrom : Nat → Int32) (Mfactor : Nat → Int32) (Mmodels : Int32) (Mrows : Int32) (v1 : Int32) (v2 : Int32) (K : Int64 → Int64 → Int32 → Int32 → (Nat → Int64) → (Nat → Int64) → (Nat → Int32) → (Nat → Int64) → Int32 → Int32 → Option (Int32 × (Nat → Int64) × (Nat → Int64) × (Nat → Int32) × (Nat → Int64) × Int32 × Int32)) (E149 : Int32 → (Nat → Int64) → (Nat → Int64) → (Nat → Int32) → (Nat → Int64) → Int32 → Int32 → Option (Int32 × (Nat → Int64) × (Nat → Int64) × (Nat → Int32) × (Nat → Int64) × Int32 × Int32)) (v3 : Int64) (v5 : Int64) (v8 : Int32) (s0 : Int32) (Mvalue : Nat → Int64) (Mslope : Nat → Int64) (Mdrawn : Nat → Int32) (Mslopes : Nat → Int64) (Mthrown : Int32) (Mx : Int32) : Option (Int32 × (Nat → Int64) × (Nat → Int64) × (Nat → Int32) × (Nat → Int64) × Int32 × Int32) := BX7_draw_140 Mestimate Msort Mwidth Mmany Mreading Mvariance Mcovariance Mformulas Mroot Mkind Mone Mother Mfrom Mfactor Mmodels Mrows v1 v2 (K) E149 v3 v5 v8 s0 0 Mvalue Mslope Mdrawn Mslopes Mthrown Mx
def LX7_draw_64 (Mestimate : Nat → Int32) (Msort : Nat → Int32) (Mwidth : Nat → Int32) (Mmany : Nat → Int32) (Mreading : Nat → Int32) (Mvariance : Nat → Int32) (Mcovariance : Nat → Int32) (Mformulas : Nat → Int32) (Mroot : Nat → Int32) (Mkind : Nat → Int32) (Mone : Nat → Int32) (Mother : Nat → Int32) (Mfrom : Nat → Int32) (Mfactor : Nat → Int32) (Mmodels : Int32) (Mrows : Int32) (v1 : Int32) (v2 : Int32) (E149 : Int32 → (Nat → Int64) → (Nat → Int64) → (Nat → Int32) → (Nat → Int64) → Int32 → Int32 → Option (Int32 × (Nat → Int64) × (Nat → Int64) × (Nat → Int32) × (Nat → Int64) × Int32 × Int32)) : Nat → Int64 → Int64 → Int32 → Int32 → (Nat → Int64) → (Nat → Int64) → (Nat → Int32) → (Nat → Int64) → Int32 → Int32 → Option (Int32 × (Nat → Int64) × (Nat → Int64) × (Nat → Int32) × (Nat → Int64) × Int32 × Int32)
  | 0, _, _, _, _, _, _, _, _, _, _ => none
  | fuel + 1, v3, v5, v7, v8, Mvalue, Mslope, Mdrawn, Mslopes, Mthrown, Mx => (if v2 ≤ v8 then E149 v7 Mvalue Mslope Mdrawn Mslopes Mthrown Mx else LX7_draw_73 Mestimate Msort Mwidth Mmany Mreading Mvariance Mcovariance Mformulas Mroot Mkind Mone Mother Mfrom Mfactor Mmodels Mrows v1 v2 (fun (v3 : Int64) (v5 : Int64) (v7 : Int32) (v8 : Int32) (Mvalue : Nat → Int64) (Mslope : Nat → Int64) (Mdrawn : Nat → Int32) (Mslopes : Nat → Int64) (Mthrown : Int32) (Mx : Int32) => bnd2 (fX7_values v1 1 Mestimate Mformulas Mroot Mkind Mone Mother Mvalue Mdrawn) (fun r15 value_15 => (if (lg_cmp v3 ((-1))) = 0 then BX7_draw_139 Mestimate Msort Mwidth Mmany Mreading Mvariance Mcovariance Mformulas Mroot Mkind Mone Mother Mfrom Mfactor Mmodels Mrows v1 v2 (LX7_draw_64 Mestimate Msort Mwidth Mmany Mreading Mvariance Mcovariance Mformulas Mroot Mkind Mone Mother Mfrom Mfactor Mmodels Mrows v1 v2 E149 fuel) E149 v3 v5 v8 v7 value_15 Mslope Mdrawn Mslopes Mthrown Mx else (if 0 < (lg_cmp (r15 - v5) v3) then BX7_draw_139 Mestimate Msort Mwidth Mmany Mreading Mvariance Mcovariance Mformulas Mroot Mkind Mone Mother Mfrom Mfactor Mmodels Mrows v1 v2 (LX7_draw_64 Mestimate Msort Mwidth Mmany Mreading Mvariance Mcovariance Mformulas Mroot Mkind Mone Mother Mfrom Mfactor Mmodels Mrows v1 v2 E149 fuel) E149 v3 v5 v8 v7 value_15 Mslope Mdrawn Mslopes Mthrown Mx else (if (lg_cmp (r15 - v5) (-v3)) < 0 then BX7_draw_139 Mestimate Msort Mwidth Mmany Mreading Mvariance Mcovariance Mformulas Mroot Mkind Mone Mother Mfrom Mfactor Mmodels Mrows v1 v2 (LX7_draw_64 Mestimate Msort Mwidth Mmany Mreading Mvariance Mcovariance Mformulas Mroot Mkind Mone Mother Mfrom Mfactor Mmodels Mrows v1 v2 E149 fuel) E149 v3 v5 v8 v7 value_15 Mslope Mdrawn Mslopes Mthrown Mx else BX7_draw_140 Mestimate Msort Mwidth Mmany Mreading Mvariance Mcovariance Mformulas Mroot Mkind Mone Mother Mfrom Mfactor Mmodels Mrows v1 v2 (LX7_draw_64 Mestimate Msort Mwidth Mmany Mreading Mvariance Mcovariance Mformulas Mroot Mkind Mone Mother Mfrom Mfactor Mmodels Mrows v1 v2 E149 fuel) E149 v3 v5 v8 v7 1 value_15 Mslope Mdrawn Mslopes Mthrown Mx))))) 1000 v3 v5 v7 v8 0 Mvalue Mslope Mdrawn Mslopes Mthrown Mx)
def BX7_draw_28 (Mestimate : Nat → Int32) (Msort : Nat → Int32) (Mwidth : Nat → Int32) (Mmany : Nat → Int32) (Mreading : Nat → Int32) (Mvariance : Nat → Int32) (Mcovariance : Nat → Int32) (Mformulas : Nat → Int32) (Mroot : Nat → Int32) (Mkind : Nat → Int32) (Mone : Nat → Int32) (Mother : Nat → Int32) (Mfrom : Nat → Int32) (Mfactor : Nat → Int32) (Mmodels : Int32) (Mrows : Int32) (v1 : Int32) (v2 : Int32)  (s1 : Int32) (Mvalue : Nat → Int64) (Mslope : Nat → Int64) (Mdrawn : Nat → Int32) (Mslopes : Nat → Int64) (Mthrown : Int32) (Mx : Int32) : Option (Int32 × (Nat → Int64) × (Nat → Int64) × (Nat → Int32) × (Nat → Int64) × Int32 × Int32) := bnd2 (fX7_holds s1 Mthrown) (fun r5 thrown_5 => (if r5 = 0 then some (0, Mvalue, Mslope, Mdrawn, Mslopes, thrown_5, Mx) else bnd3 (fX7_laysSlopes v1 Mestimate Mformulas Mroot Mkind Mone Mother Mvalue Mslope Mdrawn Mslopes) (fun value_7 slope_7 slopes_7 => bnd1 (fX7_varianceOf Mvariance Mcovariance slopes_7) (fun r8 => bnd1 (fX7_statedOf r8 Msort Mmany Mvariance slopes_7 Mfrom Mfactor Mrows) (fun r9 => bnd2 (fX7_values v1 0 Mestimate Mformulas Mroot Mkind Mone Mother value_7 Mdrawn) (fun r10 value_10 => LX7_draw_64 Mestimate Msort Mwidth Mmany Mreading Mvariance Mcovariance Mformulas Mroot Mkind Mone Mother Mfrom Mfactor Mmodels Mrows v1 v2 (fun (v7 : Int32) (Mvalue : Nat → Int64) (Mslope : Nat → Int64) (Mdrawn : Nat → Int32) (Mslopes : Nat → Int64) (Mthrown : Int32) (Mx : Int32) => some (v7, Mvalue, Mslope, Mdrawn, Mslopes, Mthrown, Mx)) 1000 r9 r10 0 0 value_10 slope_7 Mdrawn slopes_7 thrown_5 Mx))))))
def fX7_draw (v1 : Int32) (v2 : Int32) (Mestimate : Nat → Int32) (Msort : Nat → Int32) (Mwidth : Nat → Int32) (Mmany : Nat → Int32) (Mreading : Nat → Int32) (Mvariance : Nat → Int32) (Mcovariance : Nat → Int32) (Mformulas : Nat → Int32) (Mroot : Nat → Int32) (Mkind : Nat → Int32) (Mone : Nat → Int32) (Mother : Nat → Int32) (Mvalue : Nat → Int64) (Mslope : Nat → Int64) (Mdrawn : Nat → Int32) (Mslopes : Nat → Int64) (Mfrom : Nat → Int32) (Mfactor : Nat → Int32) (Mthrown : Int32) (Mmodels : Int32) (Mrows : Int32) (Mx : Int32) : Option (Int32 × (Nat → Int64) × (Nat → Int64) × (Nat → Int32) × (Nat → Int64) × Int32 × Int32) := bnd1 (fX7_isModel v1 Mmodels) (fun r1 => (if r1 = 0 then BX7_draw_28 Mestimate Msort Mwidth Mmany Mreading Mvariance Mcovariance Mformulas Mroot Mkind Mone Mother Mfrom Mfactor Mmodels Mrows v1 v2 1 Mvalue Mslope Mdrawn Mslopes Mthrown Mx else bnd1 (fX7_isIn v2 1 100) (fun r3 => (if r3 = 0 then BX7_draw_28 Mestimate Msort Mwidth Mmany Mreading Mvariance Mcovariance Mformulas Mroot Mkind Mone Mother Mfrom Mfactor Mmodels Mrows v1 v2 2 Mvalue Mslope Mdrawn Mslopes Mthrown Mx else BX7_draw_28 Mestimate Msort Mwidth Mmany Mreading Mvariance Mcovariance Mformulas Mroot Mkind Mone Mother Mfrom Mfactor Mmodels Mrows v1 v2 0 Mvalue Mslope Mdrawn Mslopes Mthrown Mx))))
abbrev rmX7_draw : Room := { frames := 5, cells := 0, slots := 0, locals := 120 }
set_option maxHeartbeats 4000000 in
set_option maxRecDepth 100000 in
theorem met_X7_draw (l : Launch) (D : va_G) (k : Nat → ClassId)  (aM : Nat → Nat) (sz : Nat) (Mestimate : Nat → Int32) (Munit : Nat → Int32) (Msort : Nat → Int32) (Mwidth : Nat → Int32) (Mmany : Nat → Int32) (Mreading : Nat → Int32) (Mvariance : Nat → Int32) (Mcovariance : Nat → Int32) (Mline : Nat → Int32) (Mformulas : Nat → Int32) (Mroot : Nat → Int32) (Mkind : Nat → Int32) (Mone : Nat → Int32) (Mother : Nat → Int32) (Msigns : Nat → Int32) (Mplace : Nat → Int32) (MleftOf : Nat → Int32) (MrightOf : Nat → Int32) (Mtype : Nat → Int32) (Msum : Nat → Int32) (Msign : Nat → Int32) (MsignAt : Nat → Int32) (Mproduct : Nat → Int32) (Mvalue : Nat → Int64) (Mslope : Nat → Int64) (Mexponent : Nat → Int32) (Mdrawn : Nat → Int32) (Mslopes : Nat → Int64) (Mfrom : Nat → Int32) (Mfactor : Nat → Int32) (Mthrown : Int32) (Mlength : Int32) (Mmodels : Int32) (Mopen : Int32) (Mat : Int32) (Mrows : Int32) (Mx : Int32) (v1 : Int32) (v2 : Int32) (r : Int32) (RMvalue : Nat → Int64) (RMslope : Nat → Int64) (RMdrawn : Nat → Int32) (RMslopes : Nat → Int64) (RMthrown : Int32) (RMx : Int32) (h : fX7_draw v1 v2 Mestimate Msort Mwidth Mmany Mreading Mvariance Mcovariance Mformulas Mroot Mkind Mone Mother Mvalue Mslope Mdrawn Mslopes Mfrom Mfactor Mthrown Mmodels Mrows Mx = some (r, RMvalue, RMslope, RMdrawn, RMslopes, RMthrown, RMx)) : Met l yX7_draw wsX7_draw rmX7_draw (va_Pc [.ref (aM 0), .int v1, .int v2] (PreW D k (wM k aM Mestimate Munit Msort Mwidth Mmany Mreading Mvariance Mcovariance Mline Mformulas Mroot Mkind Mone Mother Msigns Mplace MleftOf MrightOf Mtype Msum Msign MsignAt Mproduct Mvalue Mslope Mexponent Mdrawn Mslopes Mfrom Mfactor Mthrown Mlength Mmodels Mopen Mat Mrows Mx) sz)) (va_Qi (fun r9 (_ : Unit) => r9 = r) (fun _ t => PostW D k (va_A (wM k aM Mestimate Munit Msort Mwidth Mmany Mreading Mvariance Mcovariance Mline Mformulas Mroot Mkind Mone Mother Msigns Mplace MleftOf MrightOf Mtype Msum Msign MsignAt Mproduct Mvalue Mslope Mexponent Mdrawn Mslopes Mfrom Mfactor Mthrown Mlength Mmodels Mopen Mat Mrows Mx) sz) (wM k aM Mestimate Munit Msort Mwidth Mmany Mreading Mvariance Mcovariance Mline Mformulas Mroot Mkind Mone Mother Msigns Mplace MleftOf MrightOf Mtype Msum Msign MsignAt Mproduct RMvalue RMslope Mexponent RMdrawn RMslopes Mfrom Mfactor RMthrown Mlength Mmodels Mopen Mat Mrows RMx) t) (va_A (wM k aM Mestimate Munit Msort Mwidth Mmany Mreading Mvariance Mcovariance Mline Mformulas Mroot Mkind Mone Mother Msigns Mplace MleftOf MrightOf Mtype Msum Msign MsignAt Mproduct Mvalue Mslope Mexponent Mdrawn Mslopes Mfrom Mfactor Mthrown Mlength Mmodels Mopen Mat Mrows Mx) sz)) 0 0 (va_A (wM k aM Mestimate Munit Msort Mwidth Mmany Mreading Mvariance Mcovariance Mline Mformulas Mroot Mkind Mone Mother Msigns Mplace MleftOf MrightOf Mtype Msum Msign MsignAt Mproduct Mvalue Mslope Mexponent Mdrawn Mslopes Mfrom Mfactor Mthrown Mlength Mmodels Mopen Mat Mrows Mx) sz) := by
  refine Met.ofW (cc := cX7_draw) (maxL := 11) (ret := (some .int)) (by decide) rfl ?_
  intro p e s m args below meth c s₁ B hml hv
  obtain ⟨hav, hsz, hP, hK, hD0⟩ := hv
  have hx := B.exec
  have hb := B.bytes
  have hr := B.returns
  have hts := atoms_spec (ws := wsX7_draw) B.pre
  have hown : s.vm.findClass RX7 = some m.cls := findClass_of_methodNamed B.named
  have hlocks := B.notSynchronized
  subst hsz
  have hD := hD0.self (sz := s.heap.size)
  clear hD0
  generalize hAe : va_A (wM k aM Mestimate Munit Msort Mwidth Mmany Mreading Mvariance Mcovariance Mline Mformulas Mroot Mkind Mone Mother Msigns Mplace MleftOf MrightOf Mtype Msum Msign MsignAt Mproduct Mvalue Mslope Mexponent Mdrawn Mslopes Mfrom Mfactor Mthrown Mlength Mmodels Mopen Mat Mrows Mx) s.heap.size = A at hD ⊢
  have hA : ∀ q : Nat, s.heap.size ≤ q → A q := fun q h => by rw [← hAe]; exact Or.inr h
  have hS : va_S A s.heap s.heap [] := va_S.rf
  have hl := lv_entry ([.ref (aM 0), .int v1, .int v2]) (n := 11) (Nat.le_of_ble_eq_true rfl)
  rw [show entryFrame m args 11 = entryFrame m ([.ref (aM 0), .int v1, .int v2] : List Value).toArray 11 from by rw [hav], lg_entry_eq]
  generalize (lg_sl ([.ref (aM 0), .int v1, .int v2]) ++ List.replicate (11 - (lg_sl ([.ref (aM 0), .int v1, .int v2])).length) Slot.unset).toArray = ls at hl ⊢
  replace hl : lv_has ls 11 [(0, .ref (aM 0)), (1, .int v1), (2, .int v2)] := hl
  have f89 := hts (.fieldLink RX7 89 "UncertainBookModel" "drawn" "[I") (by decide +kernel)
  have kc208 := hts (.constantLong RX7 208 (-1)) (by decide +kernel)
  have iX7 : ∀ w ∈ u_ws RX7 TX7 37, w ∈ wsX7_draw := by decide +kernel
  refine w_q (fun Q hQ => ?_)
  unfold fX7_draw at h
  show W p l e rmX7_draw s m args below meth c s.heap [] 0 0 Q (F0 m 0 ls [])
  have LH_73 : ∀ (E99 : Int64 → Int64 → Int32 → Int32 → (Nat → Int64) → (Nat → Int64) → (Nat → Int32) → (Nat → Int64) → Int32 → Int32 → Option (Int32 × (Nat → Int64) × (Nat → Int64) × (Nat → Int32) × (Nat → Int64) × Int32 × Int32)) (hE99 : ∀ (v3 : Int64) (v5 : Int64) (v7 : Int32) (v8 : Int32) (Mvalue : Nat → Int64) (Mslope : Nat → Int64) (Mdrawn : Nat → Int32) (Mslopes : Nat → Int64) (Mthrown : Int32) (Mx : Int32), E99 v3 v5 v7 v8 Mvalue Mslope Mdrawn Mslopes Mthrown Mx = some (r, RMvalue, RMslope, RMdrawn, RMslopes, RMthrown, RMx) → ∀ (H : Heap) (locs : List Loc) (ls : Array Slot), va_P D vwCl (wM k aM Mestimate Munit Msort Mwidth Mmany Mreading Mvariance Mcovariance Mline Mformulas Mroot Mkind Mone Mother Msigns Mplace MleftOf MrightOf Mtype Msum Msign MsignAt Mproduct Mvalue Mslope Mexponent Mdrawn Mslopes Mfrom Mfactor Mthrown Mlength Mmodels Mopen Mat Mrows Mx) H → va_D A (wM k aM Mestimate Munit Msort Mwidth Mmany Mreading Mvariance Mcovariance Mline Mformulas Mroot Mkind Mone Mother Msigns Mplace MleftOf MrightOf Mtype Msum Msign MsignAt Mproduct Mvalue Mslope Mexponent Mdrawn Mslopes Mfrom Mfactor Mthrown Mlength Mmodels Mopen Mat Mrows Mx) → va_S A s.heap H locs → lv_has ls 11 [(0, .ref (aM 0)), (1, .int v1), (2, .int v2), (3, .long v3), (5, .long v5), (7, .int v7), (8, .int v8)] → W p l e rmX7_draw s m args below meth c H locs 0 0 Q (F0 m 99 ls [])) (n : Nat) (v3 : Int64) (v5 : Int64) (v7 : Int32) (v8 : Int32) (v9 : Int32) (Mvalue : Nat → Int64) (Mslope : Nat → Int64) (Mdrawn : Nat → Int32) (Mslopes : Nat → Int64) (Mthrown : Int32) (Mx : Int32), LX7_draw_73 Mestimate Msort Mwidth Mmany Mreading Mvariance Mcovariance Mformulas Mroot Mkind Mone Mother Mfrom Mfactor Mmodels Mrows v1 v2 E99 n v3 v5 v7 v8 v9 Mvalue Mslope Mdrawn Mslopes Mthrown Mx = some (r, RMvalue, RMslope, RMdrawn, RMslopes, RMthrown, RMx) → ∀ (H : Heap) (locs : List Loc) (ls : Array Slot), va_P D vwCl (wM k aM Mestimate Munit Msort Mwidth Mmany Mreading Mvariance Mcovariance Mline Mformulas Mroot Mkind Mone Mother Msigns Mplace MleftOf MrightOf Mtype Msum Msign MsignAt Mproduct Mvalue Mslope Mexponent Mdrawn Mslopes Mfrom Mfactor Mthrown Mlength Mmodels Mopen Mat Mrows Mx) H → va_D A (wM k aM Mestimate Munit Msort Mwidth Mmany Mreading Mvariance Mcovariance Mline Mformulas Mroot Mkind Mone Mother Msigns Mplace MleftOf MrightOf Mtype Msum Msign MsignAt Mproduct Mvalue Mslope Mexponent Mdrawn Mslopes Mfrom Mfactor Mthrown Mlength Mmodels Mopen Mat Mrows Mx) → va_S A s.heap H locs → lv_has ls 11 [(0, .ref (aM 0)), (1, .int v1), (2, .int v2), (3, .long v3), (5, .long v5), (7, .int v7), (8, .int v8), (9, .int v9)] → W p l e rmX7_draw s m args below meth c H locs 0 0 Q (F0 m 73 ls []) := by
    intro E99 hE99 n
    induction n with
    | zero => intro v3 v5 v7 v8 v9 Mvalue Mslope Mdrawn Mslopes Mthrown Mx h; simp [LX7_draw_73] at h
    | succ n ih =>
    intro v3 v5 v7 v8 v9 Mvalue Mslope Mdrawn Mslopes Mthrown Mx h H locs ls hP hD hS hl
    rw [LX7_draw_73] at h
    refine lv_iload hx hb dX7_draw_73 (lv_at hl 7 rfl) ?_
    refine lv_bipush (v := 6) hx hb dX7_draw_75 (by decide) ?_
    refine lv_icmp_ge (tgt := 99) hx hb dX7_draw_77 (by decide) (fun c12 => ?_) (fun c12 => ?_)
    · replace h := sf_t c12 h
      exact hE99 _ _ _ _ _ _ _ _ _ _ h _ _ _ hP hD hS (lv_sub hl [0, 1, 2, 3, 4, 5, 6] rfl)
    · replace h := sf_f c12 h
      refine lv_aload_n hx hb dX7_draw_80 rfl (lv_at hl 0 rfl) ?_
      refine va_get (D := D) (ci := 7) (v := .ref (aM 27)) (C := RX7) (T := TX7) (N := 37) hx hb hts iX7 hown hK hP 0 rfl rfl 31 (by decide) f89 (fun _ h9 => h9) rfl dX7_draw_81 ?_
      refine lv_iload hx hb dX7_draw_84 (lv_at hl 7 rfl) ?_
      refine lv_aload_n hx hb dX7_draw_86 rfl (lv_at hl 0 rfl) ?_
      refine lv_iload hx hb dX7_draw_87 (lv_at hl 7 rfl) ?_
      obtain ⟨r13, x_13, hc13, h⟩ := bnd2_inv h
      have hFc := va_free (wc := (wM k aM Mestimate Munit Msort Mwidth Mmany Mreading Mvariance Mcovariance Mline Mformulas Mroot Mkind Mone Mother Msigns Mplace MleftOf MrightOf Mtype Msum Msign MsignAt Mproduct Mvalue Mslope Mexponent Mdrawn Mslopes Mfrom Mfactor Mthrown Mlength Mmodels Mopen Mat Mrows Mx)) hD hS hA [0, 1, 2, 3, 4, 5, 6, 7, 8, 9, 10, 11, 12, 13, 14, 15, 16, 17, 18, 19, 20, 21, 22, 23, 24, 25, 26, 27, 28, 29, 30] rfl
      refine xc_i (va_runV (As := [.int v9]) (rest := [.int v9, .ref (aM 27)]) ⟨hx, hb, hml, hown, hts⟩ (met_X7_draws l D k  aM H.size Mestimate Munit Msort Mwidth Mmany Mreading Mvariance Mcovariance Mline Mformulas Mroot Mkind Mone Mother Msigns Mplace MleftOf MrightOf Mtype Msum Msign MsignAt Mproduct Mvalue Mslope Mexponent Mdrawn Mslopes Mfrom Mfactor Mthrown Mlength Mmodels Mopen Mat Mrows Mx v9 r13 x_13 hc13) (cwV 1 hts gX7_draw_X7_draws rfl rfl rfl (by decide +kernel) ⟨Nat.le_of_ble_eq_true rfl, Nat.le_of_ble_eq_true rfl⟩) ⟨pw_blind, va_recv hK hP (ci := 7) (q0 := 0) rfl rfl, pw_start hP hK hD⟩ rfl rfl hl.1 rfl (lv_room (Nat.le_of_ble_eq_true rfl)) dX7_draw_89 ⟨Nat.zero_le _, Nat.zero_le _⟩) hS hFc (fun H1 locs hP1 hD1 hk1 hS => ?_)
      obtain ⟨hP, hD⟩ := vj_all hFc hP1 hD1
      clear hP1 hD1 hk1 hFc
      generalize H1 = H at hP hS ⊢
      obtain ⟨hi14, h⟩ := gi_inv h
      refine va_iast hx hb hK hP hD hS 27 0 rfl rfl hi14 dX7_draw_92 (fun H locs hP hD hS => ?_)
      replace hP : va_P D vwCl (wM k aM Mestimate Munit Msort Mwidth Mmany Mreading Mvariance Mcovariance Mline Mformulas Mroot Mkind Mone Mother Msigns Mplace MleftOf MrightOf Mtype Msum Msign MsignAt Mproduct Mvalue Mslope Mexponent (upd Mdrawn (v9.toNatClampNeg) r13) Mslopes Mfrom Mfactor Mthrown Mlength Mmodels Mopen Mat Mrows x_13) H := hP
      replace hD : va_D A (wM k aM Mestimate Munit Msort Mwidth Mmany Mreading Mvariance Mcovariance Mline Mformulas Mroot Mkind Mone Mother Msigns Mplace MleftOf MrightOf Mtype Msum Msign MsignAt Mproduct Mvalue Mslope Mexponent (upd Mdrawn (v9.toNatClampNeg) r13) Mslopes Mfrom Mfactor Mthrown Mlength Mmodels Mopen Mat Mrows x_13) := hD
      refine lv_iinc (v := v9 + 1) (lv' := [(9, .int (v9 + 1)), (0, .ref (aM 0)), (1, .int v1), (2, .int v2), (3, .long v3), (5, .long v5), (7, .int v7), (8, .int v8)]) hx hb dX7_draw_93 hl (k := 7) rfl rfl (by decide) rfl (fun ls hl => ?_)
      refine lv_goto (tgt := 73) hx hb dX7_draw_96 (by decide) ?_
      exact ih _ _ _ _ _ _ _ _ _ _ _ h _ _ _ hP hD hS (lv_sub hl [1, 2, 3, 4, 5, 6, 7, 0] rfl)
  have BH_140 : ∀ (K : Int64 → Int64 → Int32 → Int32 → (Nat → Int64) → (Nat → Int64) → (Nat → Int32) → (Nat → Int64) → Int32 → Int32 → Option (Int32 × (Nat → Int64) × (Nat → Int64) × (Nat → Int32) × (Nat → Int64) × Int32 × Int32)) (hKK : ∀ (v3 : Int64) (v5 : Int64) (v7 : Int32) (v8 : Int32) (Mvalue : Nat → Int64) (Mslope : Nat → Int64) (Mdrawn : Nat → Int32) (Mslopes : Nat → Int64) (Mthrown : Int32) (Mx : Int32), K v3 v5 v7 v8 Mvalue Mslope Mdrawn Mslopes Mthrown Mx = some (r, RMvalue, RMslope, RMdrawn, RMslopes, RMthrown, RMx) → ∀ (H : Heap) (locs : List Loc) (ls : Array Slot), va_P D vwCl (wM k aM Mestimate Munit Msort Mwidth Mmany Mreading Mvariance Mcovariance Mline Mformulas Mroot Mkind Mone Mother Msigns Mplace MleftOf MrightOf Mtype Msum Msign MsignAt Mproduct Mvalue Mslope Mexponent Mdrawn Mslopes Mfrom Mfactor Mthrown Mlength Mmodels Mopen Mat Mrows Mx) H → va_D A (wM k aM Mestimate Munit Msort Mwidth Mmany Mreading Mvariance Mcovariance Mline Mformulas Mroot Mkind Mone Mother Msigns Mplace MleftOf MrightOf Mtype Msum Msign MsignAt Mproduct Mvalue Mslope Mexponent Mdrawn Mslopes Mfrom Mfactor Mthrown Mlength Mmodels Mopen Mat Mrows Mx) → va_S A s.heap H locs → lv_has ls 11 [(0, .ref (aM 0)), (1, .int v1), (2, .int v2), (3, .long v3), (5, .long v5), (7, .int v7), (8, .int v8)] → W p l e rmX7_draw s m args below meth c H locs 0 0 Q (F0 m 64 ls [])) (E149 : Int32 → (Nat → Int64) → (Nat → Int64) → (Nat → Int32) → (Nat → Int64) → Int32 → Int32 → Option (Int32 × (Nat → Int64) × (Nat → Int64) × (Nat → Int32) × (Nat → Int64) × Int32 × Int32)) (hE149 : ∀ (v7 : Int32) (Mvalue : Nat → Int64) (Mslope : Nat → Int64) (Mdrawn : Nat → Int32) (Mslopes : Nat → Int64) (Mthrown : Int32) (Mx : Int32), E149 v7 Mvalue Mslope Mdrawn Mslopes Mthrown Mx = some (r, RMvalue, RMslope, RMdrawn, RMslopes, RMthrown, RMx) → ∀ (H : Heap) (locs : List Loc) (ls : Array Slot), va_P D vwCl (wM k aM Mestimate Munit Msort Mwidth Mmany Mreading Mvariance Mcovariance Mline Mformulas Mroot Mkind Mone Mother Msigns Mplace MleftOf MrightOf Mtype Msum Msign MsignAt Mproduct Mvalue Mslope Mexponent Mdrawn Mslopes Mfrom Mfactor Mthrown Mlength Mmodels Mopen Mat Mrows Mx) H → va_D A (wM k aM Mestimate Munit Msort Mwidth Mmany Mreading Mvariance Mcovariance Mline Mformulas Mroot Mkind Mone Mother Msigns Mplace MleftOf MrightOf Mtype Msum Msign MsignAt Mproduct Mvalue Mslope Mexponent Mdrawn Mslopes Mfrom Mfactor Mthrown Mlength Mmodels Mopen Mat Mrows Mx) → va_S A s.heap H locs → lv_has ls 11 [(7, .int v7)] → W p l e rmX7_draw s m args below meth c H locs 0 0 Q (F0 m 149 ls [])) (v3 : Int64) (v5 : Int64) (v8 : Int32) (s0 : Int32) (s1 : Int32) (Mvalue : Nat → Int64) (Mslope : Nat → Int64) (Mdrawn : Nat → Int32) (Mslopes : Nat → Int64) (Mthrown : Int32) (Mx : Int32), BX7_draw_140 Mestimate Msort Mwidth Mmany Mreading Mvariance Mcovariance Mformulas Mroot Mkind Mone Mother Mfrom Mfactor Mmodels Mrows v1 v2 K E149 v3 v5 v8 s0 s1 Mvalue Mslope Mdrawn Mslopes Mthrown Mx = some (r, RMvalue, RMslope, RMdrawn, RMslopes, RMthrown, RMx) → ∀ (H : Heap) (locs : List Loc) (ls : Array Slot), va_P D vwCl (wM k aM Mestimate Munit Msort Mwidth Mmany Mreading Mvariance Mcovariance Mline Mformulas Mroot Mkind Mone Mother Msigns Mplace MleftOf MrightOf Mtype Msum Msign MsignAt Mproduct Mvalue Mslope Mexponent Mdrawn Mslopes Mfrom Mfactor Mthrown Mlength Mmodels Mopen Mat Mrows Mx) H → va_D A (wM k aM Mestimate Munit Msort Mwidth Mmany Mreading Mvariance Mcovariance Mline Mformulas Mroot Mkind Mone Mother Msigns Mplace MleftOf MrightOf Mtype Msum Msign MsignAt Mproduct Mvalue Mslope Mexponent Mdrawn Mslopes Mfrom Mfactor Mthrown Mlength Mmodels Mopen Mat Mrows Mx) → va_S A s.heap H locs → lv_has ls 11 [(0, .ref (aM 0)), (1, .int v1), (2, .int v2), (3, .long v3), (5, .long v5), (8, .int v8)] → W p l e rmX7_draw s m args below meth c H locs 0 0 Q (F0 m 140 ls [.int s1, .int s0]) := by
    intro K hKK E149 hE149 v3 v5 v8 s0 s1 Mvalue Mslope Mdrawn Mslopes Mthrown Mx h H locs ls hP hD hS hl
    unfold BX7_draw_140 at h
    refine lv_iadd hx hb dX7_draw_140 ?_
    refine lv_istore (lv' := [(7, .int (s0 + s1)), (0, .ref (aM 0)), (1, .int v1), (2, .int v2), (3, .long v3), (5, .long v5), (8, .int v8)]) hx hb dX7_draw_141 hl (by decide) rfl (fun ls hl => ?_)
    refine lv_iinc (v := v8 + 1) (lv' := [(8, .int (v8 + 1)), (7, .int (s0 + s1)), (0, .ref (aM 0)), (1, .int v1), (2, .int v2), (3, .long v3), (5, .long v5)]) hx hb dX7_draw_143 hl (k := 6) rfl rfl (by decide) rfl (fun ls hl => ?_)
    refine lv_goto (tgt := 64) hx hb dX7_draw_146 (by decide) ?_
    exact hKK _ _ _ _ _ _ _ _ _ _ h _ _ _ hP hD hS (lv_sub hl [2, 3, 4, 5, 6, 1, 0] rfl)
  have BH_139 : ∀ (K : Int64 → Int64 → Int32 → Int32 → (Nat → Int64) → (Nat → Int64) → (Nat → Int32) → (Nat → Int64) → Int32 → Int32 → Option (Int32 × (Nat → Int64) × (Nat → Int64) × (Nat → Int32) × (Nat → Int64) × Int32 × Int32)) (hKK : ∀ (v3 : Int64) (v5 : Int64) (v7 : Int32) (v8 : Int32) (Mvalue : Nat → Int64) (Mslope : Nat → Int64) (Mdrawn : Nat → Int32) (Mslopes : Nat → Int64) (Mthrown : Int32) (Mx : Int32), K v3 v5 v7 v8 Mvalue Mslope Mdrawn Mslopes Mthrown Mx = some (r, RMvalue, RMslope, RMdrawn, RMslopes, RMthrown, RMx) → ∀ (H : Heap) (locs : List Loc) (ls : Array Slot), va_P D vwCl (wM k aM Mestimate Munit Msort Mwidth Mmany Mreading Mvariance Mcovariance Mline Mformulas Mroot Mkind Mone Mother Msigns Mplace MleftOf MrightOf Mtype Msum Msign MsignAt Mproduct Mvalue Mslope Mexponent Mdrawn Mslopes Mfrom Mfactor Mthrown Mlength Mmodels Mopen Mat Mrows Mx) H → va_D A (wM k aM Mestimate Munit Msort Mwidth Mmany Mreading Mvariance Mcovariance Mline Mformulas Mroot Mkind Mone Mother Msigns Mplace MleftOf MrightOf Mtype Msum Msign MsignAt Mproduct Mvalue Mslope Mexponent Mdrawn Mslopes Mfrom Mfactor Mthrown Mlength Mmodels Mopen Mat Mrows Mx) → va_S A s.heap H locs → lv_has ls 11 [(0, .ref (aM 0)), (1, .int v1), (2, .int v2), (3, .long v3), (5, .long v5), (7, .int v7), (8, .int v8)] → W p l e rmX7_draw s m args below meth c H locs 0 0 Q (F0 m 64 ls [])) (E149 : Int32 → (Nat → Int64) → (Nat → Int64) → (Nat → Int32) → (Nat → Int64) → Int32 → Int32 → Option (Int32 × (Nat → Int64) × (Nat → Int64) × (Nat → Int32) × (Nat → Int64) × Int32 × Int32)) (hE149 : ∀ (v7 : Int32) (Mvalue : Nat → Int64) (Mslope : Nat → Int64) (Mdrawn : Nat → Int32) (Mslopes : Nat → Int64) (Mthrown : Int32) (Mx : Int32), E149 v7 Mvalue Mslope Mdrawn Mslopes Mthrown Mx = some (r, RMvalue, RMslope, RMdrawn, RMslopes, RMthrown, RMx) → ∀ (H : Heap) (locs : List Loc) (ls : Array Slot), va_P D vwCl (wM k aM Mestimate Munit Msort Mwidth Mmany Mreading Mvariance Mcovariance Mline Mformulas Mroot Mkind Mone Mother Msigns Mplace MleftOf MrightOf Mtype Msum Msign MsignAt Mproduct Mvalue Mslope Mexponent Mdrawn Mslopes Mfrom Mfactor Mthrown Mlength Mmodels Mopen Mat Mrows Mx) H → va_D A (wM k aM Mestimate Munit Msort Mwidth Mmany Mreading Mvariance Mcovariance Mline Mformulas Mroot Mkind Mone Mother Msigns Mplace MleftOf MrightOf Mtype Msum Msign MsignAt Mproduct Mvalue Mslope Mexponent Mdrawn Mslopes Mfrom Mfactor Mthrown Mlength Mmodels Mopen Mat Mrows Mx) → va_S A s.heap H locs → lv_has ls 11 [(7, .int v7)] → W p l e rmX7_draw s m args below meth c H locs 0 0 Q (F0 m 149 ls [])) (v3 : Int64) (v5 : Int64) (v8 : Int32) (s0 : Int32) (Mvalue : Nat → Int64) (Mslope : Nat → Int64) (Mdrawn : Nat → Int32) (Mslopes : Nat → Int64) (Mthrown : Int32) (Mx : Int32), BX7_draw_139 Mestimate Msort Mwidth Mmany Mreading Mvariance Mcovariance Mformulas Mroot Mkind Mone Mother Mfrom Mfactor Mmodels Mrows v1 v2 K E149 v3 v5 v8 s0 Mvalue Mslope Mdrawn Mslopes Mthrown Mx = some (r, RMvalue, RMslope, RMdrawn, RMslopes, RMthrown, RMx) → ∀ (H : Heap) (locs : List Loc) (ls : Array Slot), va_P D vwCl (wM k aM Mestimate Munit Msort Mwidth Mmany Mreading Mvariance Mcovariance Mline Mformulas Mroot Mkind Mone Mother Msigns Mplace MleftOf MrightOf Mtype Msum Msign MsignAt Mproduct Mvalue Mslope Mexponent Mdrawn Mslopes Mfrom Mfactor Mthrown Mlength Mmodels Mopen Mat Mrows Mx) H → va_D A (wM k aM Mestimate Munit Msort Mwidth Mmany Mreading Mvariance Mcovariance Mline Mformulas Mroot Mkind Mone Mother Msigns Mplace MleftOf MrightOf Mtype Msum Msign MsignAt Mproduct Mvalue Mslope Mexponent Mdrawn Mslopes Mfrom Mfactor Mthrown Mlength Mmodels Mopen Mat Mrows Mx) → va_S A s.heap H locs → lv_has ls 11 [(0, .ref (aM 0)), (1, .int v1), (2, .int v2), (3, .long v3), (5, .long v5), (8, .int v8)] → W p l e rmX7_draw s m args below meth c H locs 0 0 Q (F0 m 139 ls [.int s0]) := by
    intro K hKK E149 hE149 v3 v5 v8 s0 Mvalue Mslope Mdrawn Mslopes Mthrown Mx h H locs ls hP hD hS hl
    unfold BX7_draw_139 at h
    refine lv_iconst (v := 0) hx hb dX7_draw_139 (by decide) ?_
    exact BH_140 _ hKK _ hE149 _ _ _ _ _ _ _ _ _ _ _ h _ _ _ hP hD hS (lv_sub hl [0, 1, 2, 3, 4, 5] rfl)
  have LH_64 : ∀ (E149 : Int32 → (Nat → Int64) → (Nat → Int64) → (Nat → Int32) → (Nat → Int64) → Int32 → Int32 → Option (Int32 × (Nat → Int64) × (Nat → Int64) × (Nat → Int32) × (Nat → Int64) × Int32 × Int32)) (hE149 : ∀ (v7 : Int32) (Mvalue : Nat → Int64) (Mslope : Nat → Int64) (Mdrawn : Nat → Int32) (Mslopes : Nat → Int64) (Mthrown : Int32) (Mx : Int32), E149 v7 Mvalue Mslope Mdrawn Mslopes Mthrown Mx = some (r, RMvalue, RMslope, RMdrawn, RMslopes, RMthrown, RMx) → ∀ (H : Heap) (locs : List Loc) (ls : Array Slot), va_P D vwCl (wM k aM Mestimate Munit Msort Mwidth Mmany Mreading Mvariance Mcovariance Mline Mformulas Mroot Mkind Mone Mother Msigns Mplace MleftOf MrightOf Mtype Msum Msign MsignAt Mproduct Mvalue Mslope Mexponent Mdrawn Mslopes Mfrom Mfactor Mthrown Mlength Mmodels Mopen Mat Mrows Mx) H → va_D A (wM k aM Mestimate Munit Msort Mwidth Mmany Mreading Mvariance Mcovariance Mline Mformulas Mroot Mkind Mone Mother Msigns Mplace MleftOf MrightOf Mtype Msum Msign MsignAt Mproduct Mvalue Mslope Mexponent Mdrawn Mslopes Mfrom Mfactor Mthrown Mlength Mmodels Mopen Mat Mrows Mx) → va_S A s.heap H locs → lv_has ls 11 [(7, .int v7)] → W p l e rmX7_draw s m args below meth c H locs 0 0 Q (F0 m 149 ls [])) (n : Nat) (v3 : Int64) (v5 : Int64) (v7 : Int32) (v8 : Int32) (Mvalue : Nat → Int64) (Mslope : Nat → Int64) (Mdrawn : Nat → Int32) (Mslopes : Nat → Int64) (Mthrown : Int32) (Mx : Int32), LX7_draw_64 Mestimate Msort Mwidth Mmany Mreading Mvariance Mcovariance Mformulas Mroot Mkind Mone Mother Mfrom Mfactor Mmodels Mrows v1 v2 E149 n v3 v5 v7 v8 Mvalue Mslope Mdrawn Mslopes Mthrown Mx = some (r, RMvalue, RMslope, RMdrawn, RMslopes, RMthrown, RMx) → ∀ (H : Heap) (locs : List Loc) (ls : Array Slot), va_P D vwCl (wM k aM Mestimate Munit Msort Mwidth Mmany Mreading Mvariance Mcovariance Mline Mformulas Mroot Mkind Mone Mother Msigns Mplace MleftOf MrightOf Mtype Msum Msign MsignAt Mproduct Mvalue Mslope Mexponent Mdrawn Mslopes Mfrom Mfactor Mthrown Mlength Mmodels Mopen Mat Mrows Mx) H → va_D A (wM k aM Mestimate Munit Msort Mwidth Mmany Mreading Mvariance Mcovariance Mline Mformulas Mroot Mkind Mone Mother Msigns Mplace MleftOf MrightOf Mtype Msum Msign MsignAt Mproduct Mvalue Mslope Mexponent Mdrawn Mslopes Mfrom Mfactor Mthrown Mlength Mmodels Mopen Mat Mrows Mx) → va_S A s.heap H locs → lv_has ls 11 [(0, .ref (aM 0)), (1, .int v1), (2, .int v2), (3, .long v3), (5, .long v5), (7, .int v7), (8, .int v8)] → W p l e rmX7_draw s m args below meth c H locs 0 0 Q (F0 m 64 ls []) := by
    intro E149 hE149 n
    induction n with
    | zero => intro v3 v5 v7 v8 Mvalue Mslope Mdrawn Mslopes Mthrown Mx h; simp [LX7_draw_64] at h
    | succ n ih =>
    intro v3 v5 v7 v8 Mvalue Mslope Mdrawn Mslopes Mthrown Mx h H locs ls hP hD hS hl
    rw [LX7_draw_64] at h
    refine lv_iload hx hb dX7_draw_64 (lv_at hl 6 rfl) ?_
    refine lv_iload_n hx hb dX7_draw_66 rfl (lv_at hl 2 rfl) ?_
    refine lv_icmp_ge (tgt := 149) hx hb dX7_draw_67 (by decide) (fun c11 => ?_) (fun c11 => ?_)
    · replace h := sf_t c11 h
      exact hE149 _ _ _ _ _ _ _ h _ _ _ hP hD hS (lv_sub hl [5] rfl)
    · replace h := sf_f c11 h
      refine lv_iconst (v := 0) hx hb dX7_draw_70 (by decide) ?_
      refine lv_istore (lv' := [(9, .int 0), (0, .ref (aM 0)), (1, .int v1), (2, .int v2), (3, .long v3), (5, .long v5), (7, .int v7), (8, .int v8)]) hx hb dX7_draw_71 hl (by decide) rfl (fun ls hl => ?_)
      refine LH_73 _ (fun v3 v5 v7 v8 Mvalue Mslope Mdrawn Mslopes Mthrown Mx h H locs ls hP hD hS hl => ?_) _ _ _ _ _ _ _ _ _ _ _ _ h _ _ _ hP hD hS (lv_sub hl [1, 2, 3, 4, 5, 6, 7, 0] rfl)
      · skip
        refine lv_aload_n hx hb dX7_draw_99 rfl (lv_at hl 0 rfl) ?_
        refine lv_iload_n hx hb dX7_draw_100 rfl (lv_at hl 1 rfl) ?_
        refine lv_iconst (v := 1) hx hb dX7_draw_101 (by decide) ?_
        obtain ⟨r15, value_15, hc15, h⟩ := bnd2_inv h
        have hFc := va_free (wc := (wM k aM Mestimate Munit Msort Mwidth Mmany Mreading Mvariance Mcovariance Mline Mformulas Mroot Mkind Mone Mother Msigns Mplace MleftOf MrightOf Mtype Msum Msign MsignAt Mproduct Mvalue Mslope Mexponent Mdrawn Mslopes Mfrom Mfactor Mthrown Mlength Mmodels Mopen Mat Mrows Mx)) hD hS hA [0, 1, 2, 3, 4, 5, 6, 7, 8, 9, 10, 11, 12, 13, 14, 15, 16, 17, 18, 19, 20, 21, 22, 23, 24, 25, 26, 27, 28, 29, 30] rfl
        refine xc_l (va_runV (As := [.int v1, .int 1]) (rest := []) ⟨hx, hb, hml, hown, hts⟩ (met_X7_values l D k  aM H.size Mestimate Munit Msort Mwidth Mmany Mreading Mvariance Mcovariance Mline Mformulas Mroot Mkind Mone Mother Msigns Mplace MleftOf MrightOf Mtype Msum Msign MsignAt Mproduct Mvalue Mslope Mexponent Mdrawn Mslopes Mfrom Mfactor Mthrown Mlength Mmodels Mopen Mat Mrows Mx v1 1 r15 value_15 hc15) (cwV 2 hts gX7_draw_X7_values rfl rfl rfl (by decide +kernel) ⟨Nat.le_of_ble_eq_true rfl, Nat.le_of_ble_eq_true rfl⟩) ⟨pw_blind, va_recv hK hP (ci := 7) (q0 := 0) rfl rfl, pw_start hP hK hD⟩ rfl rfl hl.1 rfl (lv_room (Nat.le_of_ble_eq_true rfl)) dX7_draw_102 ⟨Nat.zero_le _, Nat.zero_le _⟩) hS hFc (fun H1 locs hP1 hD1 hk1 hS => ?_)
        obtain ⟨hP, hD⟩ := vj_all hFc hP1 hD1
        clear hP1 hD1 hk1 hFc
        generalize H1 = H at hP hS ⊢
        refine lv_lload hx hb dX7_draw_105 (lv_at hl 4 rfl) ?_
        refine lv_lsub hx hb dX7_draw_107 ?_
        refine lv_lstore (lv' := [(9, .long (r15 - v5)), (0, .ref (aM 0)), (1, .int v1), (2, .int v2), (3, .long v3), (5, .long v5), (7, .int v7), (8, .int v8)]) hx hb dX7_draw_108 hl (by decide) rfl (fun ls hl => ?_)
        refine lv_iload hx hb dX7_draw_110 (lv_at hl 6 rfl) ?_
        refine lv_lload_n hx hb dX7_draw_112 rfl (lv_at hl 4 rfl) ?_
        refine lv_ldc2 (v := -1) hx hb hown kc208 dX7_draw_113 ?_
        refine W.lcmp hx hb dX7_draw_116 ?_
        refine lv_if_eq (tgt := 139) hx hb dX7_draw_117 (by decide) (fun c16 => ?_) (fun c16 => ?_)
        · replace h := sf_t c16 h
          exact BH_139 _ ih _ hE149 _ _ _ _ _ _ _ _ _ _ h _ _ _ hP hD hS (lv_sub hl [1, 2, 3, 4, 5, 7] rfl)
        · replace h := sf_f c16 h
          refine lv_lload hx hb dX7_draw_120 (lv_at hl 0 rfl) ?_
          refine lv_lload_n hx hb dX7_draw_122 rfl (lv_at hl 4 rfl) ?_
          refine W.lcmp hx hb dX7_draw_123 ?_
          refine lv_if_gt (tgt := 139) hx hb dX7_draw_124 (by decide) (fun c17 => ?_) (fun c17 => ?_)
          · replace h := sf_t c17 h
            exact BH_139 _ ih _ hE149 _ _ _ _ _ _ _ _ _ _ h _ _ _ hP hD hS (lv_sub hl [1, 2, 3, 4, 5, 7] rfl)
          · replace h := sf_f c17 h
            refine lv_lload hx hb dX7_draw_127 (lv_at hl 0 rfl) ?_
            refine lv_lload_n hx hb dX7_draw_129 rfl (lv_at hl 4 rfl) ?_
            refine lv_lneg hx hb dX7_draw_130 ?_
            refine W.lcmp hx hb dX7_draw_131 ?_
            refine lv_if_lt (tgt := 139) hx hb dX7_draw_132 (by decide) (fun c18 => ?_) (fun c18 => ?_)
            · replace h := sf_t c18 h
              exact BH_139 _ ih _ hE149 _ _ _ _ _ _ _ _ _ _ h _ _ _ hP hD hS (lv_sub hl [1, 2, 3, 4, 5, 7] rfl)
            · replace h := sf_f c18 h
              refine lv_iconst (v := 1) hx hb dX7_draw_135 (by decide) ?_
              refine lv_goto (tgt := 140) hx hb dX7_draw_136 (by decide) ?_
              exact BH_140 _ ih _ hE149 _ _ _ _ _ _ _ _ _ _ _ h _ _ _ hP hD hS (lv_sub hl [1, 2, 3, 4, 5, 7] rfl)
  have BH_28 : ∀ (s1 : Int32) (Mvalue : Nat → Int64) (Mslope : Nat → Int64) (Mdrawn : Nat → Int32) (Mslopes : Nat → Int64) (Mthrown : Int32) (Mx : Int32), BX7_draw_28 Mestimate Msort Mwidth Mmany Mreading Mvariance Mcovariance Mformulas Mroot Mkind Mone Mother Mfrom Mfactor Mmodels Mrows v1 v2 s1 Mvalue Mslope Mdrawn Mslopes Mthrown Mx = some (r, RMvalue, RMslope, RMdrawn, RMslopes, RMthrown, RMx) → ∀ (H : Heap) (locs : List Loc) (ls : Array Slot), va_P D vwCl (wM k aM Mestimate Munit Msort Mwidth Mmany Mreading Mvariance Mcovariance Mline Mformulas Mroot Mkind Mone Mother Msigns Mplace MleftOf MrightOf Mtype Msum Msign MsignAt Mproduct Mvalue Mslope Mexponent Mdrawn Mslopes Mfrom Mfactor Mthrown Mlength Mmodels Mopen Mat Mrows Mx) H → va_D A (wM k aM Mestimate Munit Msort Mwidth Mmany Mreading Mvariance Mcovariance Mline Mformulas Mroot Mkind Mone Mother Msigns Mplace MleftOf MrightOf Mtype Msum Msign MsignAt Mproduct Mvalue Mslope Mexponent Mdrawn Mslopes Mfrom Mfactor Mthrown Mlength Mmodels Mopen Mat Mrows Mx) → va_S A s.heap H locs → lv_has ls 11 [(0, .ref (aM 0)), (1, .int v1), (2, .int v2)] → W p l e rmX7_draw s m args below meth c H locs 0 0 Q (F0 m 28 ls [.int s1, .ref (aM 0)]) := by
    intro  s1 Mvalue Mslope Mdrawn Mslopes Mthrown Mx h H locs ls hP hD hS hl
    unfold BX7_draw_28 at h
    obtain ⟨r5, thrown_5, hc5, h⟩ := bnd2_inv h
    have hFc := va_free (wc := (wM k aM Mestimate Munit Msort Mwidth Mmany Mreading Mvariance Mcovariance Mline Mformulas Mroot Mkind Mone Mother Msigns Mplace MleftOf MrightOf Mtype Msum Msign MsignAt Mproduct Mvalue Mslope Mexponent Mdrawn Mslopes Mfrom Mfactor Mthrown Mlength Mmodels Mopen Mat Mrows Mx)) hD hS hA [0, 1, 2, 3, 4, 5, 6, 7, 8, 9, 10, 11, 12, 13, 14, 15, 16, 17, 18, 19, 20, 21, 22, 23, 24, 25, 26, 27, 28, 29, 30] rfl
    refine xc_i (va_runV (As := [.int s1]) (rest := []) ⟨hx, hb, hml, hown, hts⟩ (met_X7_holds l D k  aM H.size Mestimate Munit Msort Mwidth Mmany Mreading Mvariance Mcovariance Mline Mformulas Mroot Mkind Mone Mother Msigns Mplace MleftOf MrightOf Mtype Msum Msign MsignAt Mproduct Mvalue Mslope Mexponent Mdrawn Mslopes Mfrom Mfactor Mthrown Mlength Mmodels Mopen Mat Mrows Mx s1 r5 thrown_5 hc5) (cwV 1 hts gX7_draw_X7_holds rfl rfl rfl (by decide +kernel) ⟨Nat.le_of_ble_eq_true rfl, Nat.le_of_ble_eq_true rfl⟩) ⟨pw_blind, va_recv hK hP (ci := 7) (q0 := 0) rfl rfl, pw_start hP hK hD⟩ rfl rfl hl.1 rfl (lv_room (Nat.le_of_ble_eq_true rfl)) dX7_draw_28 ⟨Nat.zero_le _, Nat.zero_le _⟩) hS hFc (fun H1 locs hP1 hD1 hk1 hS => ?_)
    obtain ⟨hP, hD⟩ := vj_all hFc hP1 hD1
    clear hP1 hD1 hk1 hFc
    generalize H1 = H at hP hS ⊢
    refine lv_if_ne (tgt := 36) hx hb dX7_draw_31 (by decide) (fun c6 => ?_) (fun c6 => ?_)
    · replace h := sf_f c6 h
      refine lv_aload_n hx hb dX7_draw_36 rfl (lv_at hl 0 rfl) ?_
      refine lv_iload_n hx hb dX7_draw_37 rfl (lv_at hl 1 rfl) ?_
      obtain ⟨value_7, slope_7, slopes_7, hc7, h⟩ := bnd3_inv h
      have hFc := va_free (wc := (wM k aM Mestimate Munit Msort Mwidth Mmany Mreading Mvariance Mcovariance Mline Mformulas Mroot Mkind Mone Mother Msigns Mplace MleftOf MrightOf Mtype Msum Msign MsignAt Mproduct Mvalue Mslope Mexponent Mdrawn Mslopes Mfrom Mfactor thrown_5 Mlength Mmodels Mopen Mat Mrows Mx)) hD hS hA [0, 1, 2, 3, 4, 5, 6, 7, 8, 9, 10, 11, 12, 13, 14, 15, 16, 17, 18, 19, 20, 21, 22, 23, 24, 25, 26, 27, 28, 29, 30] rfl
      refine xc_v (va_runV (As := [.int v1]) (rest := []) ⟨hx, hb, hml, hown, hts⟩ (met_X7_laysSlopes l D k  aM H.size Mestimate Munit Msort Mwidth Mmany Mreading Mvariance Mcovariance Mline Mformulas Mroot Mkind Mone Mother Msigns Mplace MleftOf MrightOf Mtype Msum Msign MsignAt Mproduct Mvalue Mslope Mexponent Mdrawn Mslopes Mfrom Mfactor thrown_5 Mlength Mmodels Mopen Mat Mrows Mx v1 value_7 slope_7 slopes_7 hc7) (cwV 1 hts gX7_draw_X7_laysSlopes rfl rfl rfl (by decide +kernel) ⟨Nat.le_of_ble_eq_true rfl, Nat.le_of_ble_eq_true rfl⟩) ⟨pw_blind, va_recv hK hP (ci := 7) (q0 := 0) rfl rfl, pw_start hP hK hD⟩ rfl rfl hl.1 rfl (lv_room (Nat.le_of_ble_eq_true rfl)) dX7_draw_38 ⟨Nat.zero_le _, Nat.zero_le _⟩) hS hFc (fun H1 locs hP1 hD1 hk1 hS => ?_)
      obtain ⟨hP, hD⟩ := vj_all hFc hP1 hD1
      clear hP1 hD1 hk1 hFc
      generalize H1 = H at hP hS ⊢
      refine lv_aload_n hx hb dX7_draw_41 rfl (lv_at hl 0 rfl) ?_
      refine lv_aload_n hx hb dX7_draw_42 rfl (lv_at hl 0 rfl) ?_
      obtain ⟨r8, hc8, h⟩ := bnd1_inv h
      have hFc := va_free (wc := (wM k aM Mestimate Munit Msort Mwidth Mmany Mreading Mvariance Mcovariance Mline Mformulas Mroot Mkind Mone Mother Msigns Mplace MleftOf MrightOf Mtype Msum Msign MsignAt Mproduct value_7 slope_7 Mexponent Mdrawn slopes_7 Mfrom Mfactor thrown_5 Mlength Mmodels Mopen Mat Mrows Mx)) hD hS hA [0, 1, 2, 3, 4, 5, 6, 7, 8, 9, 10, 11, 12, 13, 14, 15, 16, 17, 18, 19, 20, 21, 22, 23, 24, 25, 26, 27, 28, 29, 30] rfl
      refine xc_l (va_runV (As := []) (rest := [.ref (aM 0)]) ⟨hx, hb, hml, hown, hts⟩ (met_X7_varianceOf l D k  aM H.size Mestimate Munit Msort Mwidth Mmany Mreading Mvariance Mcovariance Mline Mformulas Mroot Mkind Mone Mother Msigns Mplace MleftOf MrightOf Mtype Msum Msign MsignAt Mproduct value_7 slope_7 Mexponent Mdrawn slopes_7 Mfrom Mfactor thrown_5 Mlength Mmodels Mopen Mat Mrows Mx r8 hc8) (cwV 0 hts gX7_draw_X7_varianceOf rfl rfl rfl (by decide +kernel) ⟨Nat.le_of_ble_eq_true rfl, Nat.le_of_ble_eq_true rfl⟩) ⟨pw_blind, va_recv hK hP (ci := 7) (q0 := 0) rfl rfl, pw_start hP hK hD⟩ rfl rfl hl.1 rfl (lv_room (Nat.le_of_ble_eq_true rfl)) dX7_draw_43 ⟨Nat.zero_le _, Nat.zero_le _⟩) hS hFc (fun H1 locs hP1 hD1 hk1 hS => ?_)
      obtain ⟨hP, hD⟩ := vj_all hFc hP1 hD1
      clear hP1 hD1 hk1 hFc
      generalize H1 = H at hP hS ⊢
      obtain ⟨r9, hc9, h⟩ := bnd1_inv h
      have hFc := va_free (wc := (wM k aM Mestimate Munit Msort Mwidth Mmany Mreading Mvariance Mcovariance Mline Mformulas Mroot Mkind Mone Mother Msigns Mplace MleftOf MrightOf Mtype Msum Msign MsignAt Mproduct value_7 slope_7 Mexponent Mdrawn slopes_7 Mfrom Mfactor thrown_5 Mlength Mmodels Mopen Mat Mrows Mx)) hD hS hA [0, 1, 2, 3, 4, 5, 6, 7, 8, 9, 10, 11, 12, 13, 14, 15, 16, 17, 18, 19, 20, 21, 22, 23, 24, 25, 26, 27, 28, 29, 30] rfl
      refine xc_l (va_runV (As := [.long r8]) (rest := []) ⟨hx, hb, hml, hown, hts⟩ (met_X7_statedOf l D k  aM H.size Mestimate Munit Msort Mwidth Mmany Mreading Mvariance Mcovariance Mline Mformulas Mroot Mkind Mone Mother Msigns Mplace MleftOf MrightOf Mtype Msum Msign MsignAt Mproduct value_7 slope_7 Mexponent Mdrawn slopes_7 Mfrom Mfactor thrown_5 Mlength Mmodels Mopen Mat Mrows Mx r8 r9 hc9) (cwV 1 hts gX7_draw_X7_statedOf rfl rfl rfl (by decide +kernel) ⟨Nat.le_of_ble_eq_true rfl, Nat.le_of_ble_eq_true rfl⟩) ⟨pw_blind, va_recv hK hP (ci := 7) (q0 := 0) rfl rfl, pw_start hP hK hD⟩ rfl rfl hl.1 rfl (lv_room (Nat.le_of_ble_eq_true rfl)) dX7_draw_46 ⟨Nat.zero_le _, Nat.zero_le _⟩) hS hFc (fun H1 locs hP1 hD1 hk1 hS => ?_)
      obtain ⟨hP, hD⟩ := vj_all hFc hP1 hD1
      clear hP1 hD1 hk1 hFc
      generalize H1 = H at hP hS ⊢
      refine lv_lstore_n (lv' := [(3, .long r9), (0, .ref (aM 0)), (1, .int v1), (2, .int v2)]) hx hb dX7_draw_49 rfl hl (by decide) rfl (fun ls hl => ?_)
      refine lv_aload_n hx hb dX7_draw_50 rfl (lv_at hl 1 rfl) ?_
      refine lv_iload_n hx hb dX7_draw_51 rfl (lv_at hl 2 rfl) ?_
      refine lv_iconst (v := 0) hx hb dX7_draw_52 (by decide) ?_
      obtain ⟨r10, value_10, hc10, h⟩ := bnd2_inv h
      have hFc := va_free (wc := (wM k aM Mestimate Munit Msort Mwidth Mmany Mreading Mvariance Mcovariance Mline Mformulas Mroot Mkind Mone Mother Msigns Mplace MleftOf MrightOf Mtype Msum Msign MsignAt Mproduct value_7 slope_7 Mexponent Mdrawn slopes_7 Mfrom Mfactor thrown_5 Mlength Mmodels Mopen Mat Mrows Mx)) hD hS hA [0, 1, 2, 3, 4, 5, 6, 7, 8, 9, 10, 11, 12, 13, 14, 15, 16, 17, 18, 19, 20, 21, 22, 23, 24, 25, 26, 27, 28, 29, 30] rfl
      refine xc_l (va_runV (As := [.int v1, .int 0]) (rest := []) ⟨hx, hb, hml, hown, hts⟩ (met_X7_values l D k  aM H.size Mestimate Munit Msort Mwidth Mmany Mreading Mvariance Mcovariance Mline Mformulas Mroot Mkind Mone Mother Msigns Mplace MleftOf MrightOf Mtype Msum Msign MsignAt Mproduct value_7 slope_7 Mexponent Mdrawn slopes_7 Mfrom Mfactor thrown_5 Mlength Mmodels Mopen Mat Mrows Mx v1 0 r10 value_10 hc10) (cwV 2 hts gX7_draw_X7_values rfl rfl rfl (by decide +kernel) ⟨Nat.le_of_ble_eq_true rfl, Nat.le_of_ble_eq_true rfl⟩) ⟨pw_blind, va_recv hK hP (ci := 7) (q0 := 0) rfl rfl, pw_start hP hK hD⟩ rfl rfl hl.1 rfl (lv_room (Nat.le_of_ble_eq_true rfl)) dX7_draw_53 ⟨Nat.zero_le _, Nat.zero_le _⟩) hS hFc (fun H1 locs hP1 hD1 hk1 hS => ?_)
      obtain ⟨hP, hD⟩ := vj_all hFc hP1 hD1
      clear hP1 hD1 hk1 hFc
      generalize H1 = H at hP hS ⊢
      refine lv_lstore (lv' := [(5, .long r10), (3, .long r9), (0, .ref (aM 0)), (1, .int v1), (2, .int v2)]) hx hb dX7_draw_56 hl (by decide) rfl (fun ls hl => ?_)
      refine lv_iconst (v := 0) hx hb dX7_draw_58 (by decide) ?_
      refine lv_istore (lv' := [(7, .int 0), (5, .long r10), (3, .long r9), (0, .ref (aM 0)), (1, .int v1), (2, .int v2)]) hx hb dX7_draw_59 hl (by decide) rfl (fun ls hl => ?_)
      refine lv_iconst (v := 0) hx hb dX7_draw_61 (by decide) ?_
      refine lv_istore (lv' := [(8, .int 0), (7, .int 0), (5, .long r10), (3, .long r9), (0, .ref (aM 0)), (1, .int v1), (2, .int v2)]) hx hb dX7_draw_62 hl (by decide) rfl (fun ls hl => ?_)
      refine LH_64 _ (fun v7 Mvalue Mslope Mdrawn Mslopes Mthrown Mx h H locs ls hP hD hS hl => ?_) _ _ _ _ _ _ _ _ _ _ _ h _ _ _ hP hD hS (lv_sub hl [4, 5, 6, 3, 2, 1, 0] rfl)
      · skip
        refine lv_iload hx hb dX7_draw_149 (lv_at hl 0 rfl) ?_
        have hP9 := hP
        have hD9 := hD
        have hS9 := hS
        subst hQ
        cases h
        exact W.iret hx hb hr (fun t ht hW => ⟨⟨_, (), rfl, rfl, by rw [ht]; exact hP9, va_K.moved hW.alike hK, hD9⟩, hS9.F ht⟩) hS9.2.2 dX7_draw_151
    · replace h := sf_t c6 h
      refine lv_iconst (v := 0) hx hb dX7_draw_34 (by decide) ?_
      have hP9 := hP
      have hD9 := hD
      have hS9 := hS
      subst hQ
      cases h
      exact W.iret hx hb hr (fun t ht hW => ⟨⟨_, (), rfl, rfl, by rw [ht]; exact hP9, va_K.moved hW.alike hK, hD9⟩, hS9.F ht⟩) hS9.2.2 dX7_draw_35
  suffices main : ∀ (H : Heap) (locs : List Loc) (ls : Array Slot), va_P D vwCl (wM k aM Mestimate Munit Msort Mwidth Mmany Mreading Mvariance Mcovariance Mline Mformulas Mroot Mkind Mone Mother Msigns Mplace MleftOf MrightOf Mtype Msum Msign MsignAt Mproduct Mvalue Mslope Mexponent Mdrawn Mslopes Mfrom Mfactor Mthrown Mlength Mmodels Mopen Mat Mrows Mx) H → va_D A (wM k aM Mestimate Munit Msort Mwidth Mmany Mreading Mvariance Mcovariance Mline Mformulas Mroot Mkind Mone Mother Msigns Mplace MleftOf MrightOf Mtype Msum Msign MsignAt Mproduct Mvalue Mslope Mexponent Mdrawn Mslopes Mfrom Mfactor Mthrown Mlength Mmodels Mopen Mat Mrows Mx) → va_S A s.heap H locs → lv_has ls 11 [(0, .ref (aM 0)), (1, .int v1), (2, .int v2)] → W p l e rmX7_draw s m args below meth c H locs 0 0 Q (F0 m 0 ls []) from main _ _ _ hP hD hS hl
  clear hP hD hS hl ls hAe
  intro H locs ls hP hD hS hl
  refine lv_aload_n hx hb dX7_draw_0 rfl (lv_at hl 0 rfl) ?_
  refine lv_aload_n hx hb dX7_draw_1 rfl (lv_at hl 0 rfl) ?_
  refine lv_iload_n hx hb dX7_draw_2 rfl (lv_at hl 1 rfl) ?_
  obtain ⟨r1, hc1, h⟩ := bnd1_inv h
  have hFc := va_free (wc := (wM k aM Mestimate Munit Msort Mwidth Mmany Mreading Mvariance Mcovariance Mline Mformulas Mroot Mkind Mone Mother Msigns Mplace MleftOf MrightOf Mtype Msum Msign MsignAt Mproduct Mvalue Mslope Mexponent Mdrawn Mslopes Mfrom Mfactor Mthrown Mlength Mmodels Mopen Mat Mrows Mx)) hD hS hA [0, 1, 2, 3, 4, 5, 6, 7, 8, 9, 10, 11, 12, 13, 14, 15, 16, 17, 18, 19, 20, 21, 22, 23, 24, 25, 26, 27, 28, 29, 30] rfl
  refine xc_i (va_runV (As := [.int v1]) (rest := [.ref (aM 0)]) ⟨hx, hb, hml, hown, hts⟩ (met_X7_isModel l D k  aM H.size Mestimate Munit Msort Mwidth Mmany Mreading Mvariance Mcovariance Mline Mformulas Mroot Mkind Mone Mother Msigns Mplace MleftOf MrightOf Mtype Msum Msign MsignAt Mproduct Mvalue Mslope Mexponent Mdrawn Mslopes Mfrom Mfactor Mthrown Mlength Mmodels Mopen Mat Mrows Mx v1 r1 hc1) (cwV 1 hts gX7_draw_X7_isModel rfl rfl rfl (by decide +kernel) ⟨Nat.le_of_ble_eq_true rfl, Nat.le_of_ble_eq_true rfl⟩) ⟨pw_blind, va_recv hK hP (ci := 7) (q0 := 0) rfl rfl, pw_start hP hK hD⟩ rfl rfl hl.1 rfl (lv_room (Nat.le_of_ble_eq_true rfl)) dX7_draw_3 ⟨Nat.zero_le _, Nat.zero_le _⟩) hS hFc (fun H1 locs hP1 hD1 hk1 hS => ?_)
  obtain ⟨hP, hD⟩ := vj_all hFc hP1 hD1
  clear hP1 hD1 hk1 hFc
  generalize H1 = H at hP hS ⊢
  refine lv_if_ne (tgt := 13) hx hb dX7_draw_6 (by decide) (fun c2 => ?_) (fun c2 => ?_)
  · replace h := sf_f c2 h
    refine lv_iload_n hx hb dX7_draw_13 rfl (lv_at hl 2 rfl) ?_
    refine lv_iconst (v := 1) hx hb dX7_draw_14 (by decide) ?_
    refine lv_bipush (v := 100) hx hb dX7_draw_15 (by decide) ?_
    obtain ⟨r3, hc3, h⟩ := bnd1_inv h
    have hPc := hP.sub (ws' := ([] : va_W)) [] rfl
    have hDc := hD.sub (ws' := ([] : va_W)) [] rfl rfl
    have hFc := va_free (wc := ([] : va_W)) hD hS hA [] rfl
    refine xc_i (va_runS (As := [.int v2, .int 1, .int 100]) (rest := [.ref (aM 0)]) ⟨hx, hb, hml, hown, hts⟩ (met_X7_isIn l D k  H.size v2 1 100 r3 hc3) (va_cwS 3 hts gX7_draw_X7_isIn rfl rfl rfl (by decide +kernel) ⟨Nat.le_of_ble_eq_true rfl, Nat.le_of_ble_eq_true rfl⟩) ⟨pw_blind, pw_start hPc hK hDc⟩ rfl rfl hl.1 rfl (lv_room (Nat.le_of_ble_eq_true rfl)) dX7_draw_17 ⟨Nat.zero_le _, Nat.zero_le _⟩) hS hFc (fun H1 locs hP1 hD1 hk1 hS => ?_)
    obtain ⟨hP, hD⟩ := vj (ws' := (wM k aM Mestimate Munit Msort Mwidth Mmany Mreading Mvariance Mcovariance Mline Mformulas Mroot Mkind Mone Mother Msigns Mplace MleftOf MrightOf Mtype Msum Msign MsignAt Mproduct Mvalue Mslope Mexponent Mdrawn Mslopes Mfrom Mfactor Mthrown Mlength Mmodels Mopen Mat Mrows Mx)) (w1 := ([] : va_W)) hP hD [] [0, 1, 2, 3, 4, 5, 6, 7, 8, 9, 10, 11, 12, 13, 14, 15, 16, 17, 18, 19, 20, 21, 22, 23, 24, 25, 26, 27, 28, 29, 30] [0, 1, 2, 3, 4, 5, 6, 7, 8, 9, 10, 11, 12, 13, 14, 15, 16, 17, 18, 19, 20, 21, 22, 23, 24, 25, 26, 27, 28, 29, 30] rfl rfl rfl rfl rfl hk1 hFc hP1 hD1
    clear hP1 hD1 hk1 hFc
    generalize H1 = H at hP hS ⊢
    refine lv_if_eq (tgt := 27) hx hb dX7_draw_20 (by decide) (fun c4 => ?_) (fun c4 => ?_)
    · replace h := sf_t c4 h
      refine lv_iconst (v := 2) hx hb dX7_draw_27 (by decide) ?_
      exact BH_28  _ _ _ _ _ _ _ h _ _ _ hP hD hS (lv_sub hl [0, 1, 2] rfl)
    · replace h := sf_f c4 h
      refine lv_iconst (v := 0) hx hb dX7_draw_23 (by decide) ?_
      refine lv_goto (tgt := 28) hx hb dX7_draw_24 (by decide) ?_
      exact BH_28  _ _ _ _ _ _ _ h _ _ _ hP hD hS (lv_sub hl [0, 1, 2] rfl)
  · replace h := sf_t c2 h
    refine lv_iconst (v := 1) hx hb dX7_draw_9 (by decide) ?_
    refine lv_goto (tgt := 28) hx hb dX7_draw_10 (by decide) ?_
    exact BH_28  _ _ _ _ _ _ _ h _ _ _ hP hD hS (lv_sub hl [0, 1, 2] rfl)
