def LX7_formula_8 (v1 : Int32) (v2 : Int32) (v3 : Int32) (E62 : Int32 → (Nat → Int32) → (Nat → Int32) → (Nat → Int32) → (Nat → Int32) → Option (Int32 × (Nat → Int32) × (Nat → Int32) × (Nat → Int32) × (Nat → Int32))) (E71 : Int32 → (Nat → Int32) → (Nat → Int32) → (Nat → Int32) → (Nat → Int32) → Option (Int32 × (Nat → Int32) × (Nat → Int32) × (Nat → Int32) × (Nat → Int32))) : Nat → Int32 → Int32 → (Nat → Int32) → (Nat → Int32) → (Nat → Int32) → (Nat → Int32) → Option (Int32 × (Nat → Int32) × (Nat → Int32) × (Nat → Int32) × (Nat → Int32))
  | 0, _, _, _, _, _, _ => none
  | fuel + 1, v4, v5, Mformulas, Mkind, Mone, Mother => gi 8 9 ((if (Mformulas (8 : Int32).toNatClampNeg) ≤ v5 then E71 v4 Mformulas Mkind Mone Mother else gi (v4 + v5) 576 ((if (Mkind (v4 + v5).toNatClampNeg) = v1 then gi (v4 + v5) 576 ((if (Mone (v4 + v5).toNatClampNeg) = v2 then gi (v4 + v5) 576 ((if (Mother (v4 + v5).toNatClampNeg) = v3 then E62 v5 Mformulas Mkind Mone Mother else LX7_formula_8 v1 v2 v3 E62 E71 fuel v4 (v5 + 1) Mformulas Mkind Mone Mother)) else LX7_formula_8 v1 v2 v3 E62 E71 fuel v4 (v5 + 1) Mformulas Mkind Mone Mother)) else LX7_formula_8 v1 v2 v3 E62 E71 fuel v4 (v5 + 1) Mformulas Mkind Mone Mother))))
def fX7_formula (v1 : Int32) (v2 : Int32) (v3 : Int32) (Mformulas : Nat → Int32) (Mkind : Nat → Int32) (Mone : Nat → Int32) (Mother : Nat → Int32) : Option (Int32 × (Nat → Int32) × (Nat → Int32) × (Nat → Int32) × (Nat → Int32)) := LX7_formula_8 v1 v2 v3 (fun (v5 : Int32) (Mformulas : Nat → Int32) (Mkind : Nat → Int32) (Mone : Nat → Int32) (Mother : Nat → Int32) => some (v5, Mformulas, Mkind, Mone, Mother)) (fun (v4 : Int32) (Mformulas : Nat → Int32) (Mkind : Nat → Int32) (Mone : Nat → Int32) (Mother : Nat → Int32) => gi 8 9 (gi (v4 + (Mformulas (8 : Int32).toNatClampNeg)) 576 (gi (v4 + (Mformulas (8 : Int32).toNatClampNeg)) 576 (gi (v4 + (Mformulas (8 : Int32).toNatClampNeg)) 576 (gi 8 9 (gi 8 9 (some (Mformulas (8 : Int32).toNatClampNeg, upd Mformulas ((8 : Int32).toNatClampNeg) ((Mformulas (8 : Int32).toNatClampNeg) + 1), upd Mkind ((v4 + (Mformulas (8 : Int32).toNatClampNeg)).toNatClampNeg) v1, upd Mone ((v4 + (Mformulas (8 : Int32).toNatClampNeg)).toNatClampNeg) v2, upd Mother ((v4 + (Mformulas (8 : Int32).toNatClampNeg)).toNatClampNeg) v3)))))))) 1000 512 0 Mformulas Mkind Mone Mother
abbrev rmX7_formula : Room := { frames := 0, cells := 0, slots := 0, locals := 0 }
set_option maxHeartbeats 4000000 in
set_option maxRecDepth 100000 in
theorem met_X7_formula (l : Launch) (D : va_G) (k : Nat → ClassId)  (aM : Nat → Nat) (sz : Nat) (Mestimate : Nat → Int32) (Munit : Nat → Int32) (Msort : Nat → Int32) (Mwidth : Nat → Int32) (Mmany : Nat → Int32) (Mreading : Nat → Int32) (Mvariance : Nat → Int32) (Mcovariance : Nat → Int32) (Mline : Nat → Int32) (Mformulas : Nat → Int32) (Mroot : Nat → Int32) (Mkind : Nat → Int32) (Mone : Nat → Int32) (Mother : Nat → Int32) (Msigns : Nat → Int32) (Mplace : Nat → Int32) (MleftOf : Nat → Int32) (MrightOf : Nat → Int32) (Mtype : Nat → Int32) (Msum : Nat → Int32) (Msign : Nat → Int32) (MsignAt : Nat → Int32) (Mproduct : Nat → Int32) (Mvalue : Nat → Int64) (Mslope : Nat → Int64) (Mexponent : Nat → Int32) (Mdrawn : Nat → Int32) (Mslopes : Nat → Int64) (Mfrom : Nat → Int32) (Mfactor : Nat → Int32) (Mthrown : Int32) (Mlength : Int32) (Mmodels : Int32) (Mopen : Int32) (Mat : Int32) (Mrows : Int32) (Mx : Int32) (v1 : Int32) (v2 : Int32) (v3 : Int32) (r : Int32) (RMformulas : Nat → Int32) (RMkind : Nat → Int32) (RMone : Nat → Int32) (RMother : Nat → Int32) (h : fX7_formula v1 v2 v3 Mformulas Mkind Mone Mother = some (r, RMformulas, RMkind, RMone, RMother)) : Met l yX7_formula wsX7_formula rmX7_formula (va_Pc [.ref (aM 0), .int v1, .int v2, .int v3] (PreW D k (wM k aM Mestimate Munit Msort Mwidth Mmany Mreading Mvariance Mcovariance Mline Mformulas Mroot Mkind Mone Mother Msigns Mplace MleftOf MrightOf Mtype Msum Msign MsignAt Mproduct Mvalue Mslope Mexponent Mdrawn Mslopes Mfrom Mfactor Mthrown Mlength Mmodels Mopen Mat Mrows Mx) sz)) (va_Qi (fun r9 (_ : Unit) => r9 = r) (fun _ t => PostW D k (va_A (wM k aM Mestimate Munit Msort Mwidth Mmany Mreading Mvariance Mcovariance Mline Mformulas Mroot Mkind Mone Mother Msigns Mplace MleftOf MrightOf Mtype Msum Msign MsignAt Mproduct Mvalue Mslope Mexponent Mdrawn Mslopes Mfrom Mfactor Mthrown Mlength Mmodels Mopen Mat Mrows Mx) sz) (wM k aM Mestimate Munit Msort Mwidth Mmany Mreading Mvariance Mcovariance Mline RMformulas Mroot RMkind RMone RMother Msigns Mplace MleftOf MrightOf Mtype Msum Msign MsignAt Mproduct Mvalue Mslope Mexponent Mdrawn Mslopes Mfrom Mfactor Mthrown Mlength Mmodels Mopen Mat Mrows Mx) t) (va_A (wM k aM Mestimate Munit Msort Mwidth Mmany Mreading Mvariance Mcovariance Mline Mformulas Mroot Mkind Mone Mother Msigns Mplace MleftOf MrightOf Mtype Msum Msign MsignAt Mproduct Mvalue Mslope Mexponent Mdrawn Mslopes Mfrom Mfactor Mthrown Mlength Mmodels Mopen Mat Mrows Mx) sz)) 0 0 (va_A (wM k aM Mestimate Munit Msort Mwidth Mmany Mreading Mvariance Mcovariance Mline Mformulas Mroot Mkind Mone Mother Msigns Mplace MleftOf MrightOf Mtype Msum Msign MsignAt Mproduct Mvalue Mslope Mexponent Mdrawn Mslopes Mfrom Mfactor Mthrown Mlength Mmodels Mopen Mat Mrows Mx) sz) := by
  refine Met.ofW (cc := cX7_formula) (maxL := 6) (ret := (some .int)) (by decide) rfl ?_
  intro p e s m args below meth c s₁ B hml hv
  obtain ⟨hav, hsz, hP, hK, hD0⟩ := hv
  have hx := B.exec
  have hb := B.bytes
  have hr := B.returns
  have hts := atoms_spec (ws := wsX7_formula) B.pre
  have hown : s.vm.findClass RX7 = some m.cls := findClass_of_methodNamed B.named
  have hlocks := B.notSynchronized
  subst hsz
  have hD := hD0.self (sz := s.heap.size)
  clear hD0
  generalize hAe : va_A (wM k aM Mestimate Munit Msort Mwidth Mmany Mreading Mvariance Mcovariance Mline Mformulas Mroot Mkind Mone Mother Msigns Mplace MleftOf MrightOf Mtype Msum Msign MsignAt Mproduct Mvalue Mslope Mexponent Mdrawn Mslopes Mfrom Mfactor Mthrown Mlength Mmodels Mopen Mat Mrows Mx) s.heap.size = A at hD ⊢
  have hA : ∀ q : Nat, s.heap.size ≤ q → A q := fun q h => by rw [← hAe]; exact Or.inr h
  have hS : va_S A s.heap s.heap [] := va_S.rf
  have hl := lv_entry ([.ref (aM 0), .int v1, .int v2, .int v3]) (n := 6) (Nat.le_of_ble_eq_true rfl)
  rw [show entryFrame m args 6 = entryFrame m ([.ref (aM 0), .int v1, .int v2, .int v3] : List Value).toArray 6 from by rw [hav], lg_entry_eq]
  generalize (lg_sl ([.ref (aM 0), .int v1, .int v2, .int v3]) ++ List.replicate (6 - (lg_sl ([.ref (aM 0), .int v1, .int v2, .int v3])).length) Slot.unset).toArray = ls at hl ⊢
  replace hl : lv_has ls 6 [(0, .ref (aM 0)), (1, .int v1), (2, .int v2), (3, .int v3)] := hl
  have f37 := hts (.fieldLink RX7 37 "UncertainBookModel" "formulas" "[I") (by decide +kernel)
  have f43 := hts (.fieldLink RX7 43 "UncertainBookModel" "kind" "[I") (by decide +kernel)
  have f46 := hts (.fieldLink RX7 46 "UncertainBookModel" "one" "[I") (by decide +kernel)
  have f49 := hts (.fieldLink RX7 49 "UncertainBookModel" "other" "[I") (by decide +kernel)
  have iX7 : ∀ w ∈ u_ws RX7 TX7 37, w ∈ wsX7_formula := by decide +kernel
  refine w_q (fun Q hQ => ?_)
  unfold fX7_formula at h
  show W p l e rmX7_formula s m args below meth c s.heap [] 0 0 Q (F0 m 0 ls [])
  have LH_8 : ∀ (E62 : Int32 → (Nat → Int32) → (Nat → Int32) → (Nat → Int32) → (Nat → Int32) → Option (Int32 × (Nat → Int32) × (Nat → Int32) × (Nat → Int32) × (Nat → Int32))) (hE62 : ∀ (v5 : Int32) (Mformulas : Nat → Int32) (Mkind : Nat → Int32) (Mone : Nat → Int32) (Mother : Nat → Int32), E62 v5 Mformulas Mkind Mone Mother = some (r, RMformulas, RMkind, RMone, RMother) → ∀ (H : Heap) (locs : List Loc) (ls : Array Slot), va_P D vwCl (wM k aM Mestimate Munit Msort Mwidth Mmany Mreading Mvariance Mcovariance Mline Mformulas Mroot Mkind Mone Mother Msigns Mplace MleftOf MrightOf Mtype Msum Msign MsignAt Mproduct Mvalue Mslope Mexponent Mdrawn Mslopes Mfrom Mfactor Mthrown Mlength Mmodels Mopen Mat Mrows Mx) H → va_D A (wM k aM Mestimate Munit Msort Mwidth Mmany Mreading Mvariance Mcovariance Mline Mformulas Mroot Mkind Mone Mother Msigns Mplace MleftOf MrightOf Mtype Msum Msign MsignAt Mproduct Mvalue Mslope Mexponent Mdrawn Mslopes Mfrom Mfactor Mthrown Mlength Mmodels Mopen Mat Mrows Mx) → va_S A s.heap H locs → lv_has ls 6 [(5, .int v5)] → W p l e rmX7_formula s m args below meth c H locs 0 0 Q (F0 m 62 ls [])) (E71 : Int32 → (Nat → Int32) → (Nat → Int32) → (Nat → Int32) → (Nat → Int32) → Option (Int32 × (Nat → Int32) × (Nat → Int32) × (Nat → Int32) × (Nat → Int32))) (hE71 : ∀ (v4 : Int32) (Mformulas : Nat → Int32) (Mkind : Nat → Int32) (Mone : Nat → Int32) (Mother : Nat → Int32), E71 v4 Mformulas Mkind Mone Mother = some (r, RMformulas, RMkind, RMone, RMother) → ∀ (H : Heap) (locs : List Loc) (ls : Array Slot), va_P D vwCl (wM k aM Mestimate Munit Msort Mwidth Mmany Mreading Mvariance Mcovariance Mline Mformulas Mroot Mkind Mone Mother Msigns Mplace MleftOf MrightOf Mtype Msum Msign MsignAt Mproduct Mvalue Mslope Mexponent Mdrawn Mslopes Mfrom Mfactor Mthrown Mlength Mmodels Mopen Mat Mrows Mx) H → va_D A (wM k aM Mestimate Munit Msort Mwidth Mmany Mreading Mvariance Mcovariance Mline Mformulas Mroot Mkind Mone Mother Msigns Mplace MleftOf MrightOf Mtype Msum Msign MsignAt Mproduct Mvalue Mslope Mexponent Mdrawn Mslopes Mfrom Mfactor Mthrown Mlength Mmodels Mopen Mat Mrows Mx) → va_S A s.heap H locs → lv_has ls 6 [(0, .ref (aM 0)), (1, .int v1), (2, .int v2), (3, .int v3), (4, .int v4)] → W p l e rmX7_formula s m args below meth c H locs 0 0 Q (F0 m 71 ls [])) (n : Nat) (v4 : Int32) (v5 : Int32) (Mformulas : Nat → Int32) (Mkind : Nat → Int32) (Mone : Nat → Int32) (Mother : Nat → Int32), LX7_formula_8 v1 v2 v3 E62 E71 n v4 v5 Mformulas Mkind Mone Mother = some (r, RMformulas, RMkind, RMone, RMother) → ∀ (H : Heap) (locs : List Loc) (ls : Array Slot), va_P D vwCl (wM k aM Mestimate Munit Msort Mwidth Mmany Mreading Mvariance Mcovariance Mline Mformulas Mroot Mkind Mone Mother Msigns Mplace MleftOf MrightOf Mtype Msum Msign MsignAt Mproduct Mvalue Mslope Mexponent Mdrawn Mslopes Mfrom Mfactor Mthrown Mlength Mmodels Mopen Mat Mrows Mx) H → va_D A (wM k aM Mestimate Munit Msort Mwidth Mmany Mreading Mvariance Mcovariance Mline Mformulas Mroot Mkind Mone Mother Msigns Mplace MleftOf MrightOf Mtype Msum Msign MsignAt Mproduct Mvalue Mslope Mexponent Mdrawn Mslopes Mfrom Mfactor Mthrown Mlength Mmodels Mopen Mat Mrows Mx) → va_S A s.heap H locs → lv_has ls 6 [(0, .ref (aM 0)), (1, .int v1), (2, .int v2), (3, .int v3), (4, .int v4), (5, .int v5)] → W p l e rmX7_formula s m args below meth c H locs 0 0 Q (F0 m 8 ls []) := by
    intro E62 hE62 E71 hE71 n
    induction n with
    | zero => intro v4 v5 Mformulas Mkind Mone Mother h; simp [LX7_formula_8] at h
    | succ n ih =>
    intro v4 v5 Mformulas Mkind Mone Mother h H locs ls hP hD hS hl
    rw [LX7_formula_8] at h
    refine lv_iload hx hb dX7_formula_8 (lv_at hl 5 rfl) ?_
    refine lv_aload_n hx hb dX7_formula_10 rfl (lv_at hl 0 rfl) ?_
    refine va_get (D := D) (ci := 7) (v := .ref (aM 10)) (C := RX7) (T := TX7) (N := 37) hx hb hts iX7 hown hK hP 0 rfl rfl 12 (by decide) f37 (fun _ h9 => h9) rfl dX7_formula_11 ?_
    refine lv_bipush (v := 8) hx hb dX7_formula_14 (by decide) ?_
    obtain ⟨hi1, h⟩ := gi_inv h
    refine va_iald hx hb hK hP 10 0 rfl rfl hi1 dX7_formula_16 ?_
    refine lv_icmp_ge (tgt := 71) hx hb dX7_formula_17 (by decide) (fun c2 => ?_) (fun c2 => ?_)
    · replace h := sf_t c2 h
      exact hE71 _ _ _ _ _ h _ _ _ hP hD hS (lv_sub hl [0, 1, 2, 3, 4] rfl)
    · replace h := sf_f c2 h
      refine lv_aload_n hx hb dX7_formula_20 rfl (lv_at hl 0 rfl) ?_
      refine va_get (D := D) (ci := 7) (v := .ref (aM 12)) (C := RX7) (T := TX7) (N := 37) hx hb hts iX7 hown hK hP 0 rfl rfl 14 (by decide) f43 (fun _ h9 => h9) rfl dX7_formula_21 ?_
      refine lv_iload hx hb dX7_formula_24 (lv_at hl 4 rfl) ?_
      refine lv_iload hx hb dX7_formula_26 (lv_at hl 5 rfl) ?_
      refine lv_iadd hx hb dX7_formula_28 ?_
      obtain ⟨hi3, h⟩ := gi_inv h
      refine va_iald hx hb hK hP 12 0 rfl rfl hi3 dX7_formula_29 ?_
      refine lv_iload_n hx hb dX7_formula_30 rfl (lv_at hl 1 rfl) ?_
      refine lv_icmp_ne (tgt := 65) hx hb dX7_formula_31 (by decide) (fun c4 => ?_) (fun c4 => ?_)
      · replace h := sf_f c4 h
        refine lv_iinc (v := v5 + 1) (lv' := [(5, .int (v5 + 1)), (0, .ref (aM 0)), (1, .int v1), (2, .int v2), (3, .int v3), (4, .int v4)]) hx hb dX7_formula_65 hl (k := 5) rfl rfl (by decide) rfl (fun ls hl => ?_)
        refine lv_goto (tgt := 8) hx hb dX7_formula_68 (by decide) ?_
        exact ih _ _ _ _ _ _ h _ _ _ hP hD hS (lv_sub hl [1, 2, 3, 4, 5, 0] rfl)
      · replace h := sf_t c4 h
        refine lv_aload_n hx hb dX7_formula_34 rfl (lv_at hl 0 rfl) ?_
        refine va_get (D := D) (ci := 7) (v := .ref (aM 13)) (C := RX7) (T := TX7) (N := 37) hx hb hts iX7 hown hK hP 0 rfl rfl 15 (by decide) f46 (fun _ h9 => h9) rfl dX7_formula_35 ?_
        refine lv_iload hx hb dX7_formula_38 (lv_at hl 4 rfl) ?_
        refine lv_iload hx hb dX7_formula_40 (lv_at hl 5 rfl) ?_
        refine lv_iadd hx hb dX7_formula_42 ?_
        obtain ⟨hi5, h⟩ := gi_inv h
        refine va_iald hx hb hK hP 13 0 rfl rfl hi5 dX7_formula_43 ?_
        refine lv_iload_n hx hb dX7_formula_44 rfl (lv_at hl 2 rfl) ?_
        refine lv_icmp_ne (tgt := 65) hx hb dX7_formula_45 (by decide) (fun c6 => ?_) (fun c6 => ?_)
        · replace h := sf_f c6 h
          refine lv_iinc (v := v5 + 1) (lv' := [(5, .int (v5 + 1)), (0, .ref (aM 0)), (1, .int v1), (2, .int v2), (3, .int v3), (4, .int v4)]) hx hb dX7_formula_65 hl (k := 5) rfl rfl (by decide) rfl (fun ls hl => ?_)
          refine lv_goto (tgt := 8) hx hb dX7_formula_68 (by decide) ?_
          exact ih _ _ _ _ _ _ h _ _ _ hP hD hS (lv_sub hl [1, 2, 3, 4, 5, 0] rfl)
        · replace h := sf_t c6 h
          refine lv_aload_n hx hb dX7_formula_48 rfl (lv_at hl 0 rfl) ?_
          refine va_get (D := D) (ci := 7) (v := .ref (aM 14)) (C := RX7) (T := TX7) (N := 37) hx hb hts iX7 hown hK hP 0 rfl rfl 16 (by decide) f49 (fun _ h9 => h9) rfl dX7_formula_49 ?_
          refine lv_iload hx hb dX7_formula_52 (lv_at hl 4 rfl) ?_
          refine lv_iload hx hb dX7_formula_54 (lv_at hl 5 rfl) ?_
          refine lv_iadd hx hb dX7_formula_56 ?_
          obtain ⟨hi7, h⟩ := gi_inv h
          refine va_iald hx hb hK hP 14 0 rfl rfl hi7 dX7_formula_57 ?_
          refine lv_iload_n hx hb dX7_formula_58 rfl (lv_at hl 3 rfl) ?_
          refine lv_icmp_ne (tgt := 65) hx hb dX7_formula_59 (by decide) (fun c8 => ?_) (fun c8 => ?_)
          · replace h := sf_f c8 h
            refine lv_iinc (v := v5 + 1) (lv' := [(5, .int (v5 + 1)), (0, .ref (aM 0)), (1, .int v1), (2, .int v2), (3, .int v3), (4, .int v4)]) hx hb dX7_formula_65 hl (k := 5) rfl rfl (by decide) rfl (fun ls hl => ?_)
            refine lv_goto (tgt := 8) hx hb dX7_formula_68 (by decide) ?_
            exact ih _ _ _ _ _ _ h _ _ _ hP hD hS (lv_sub hl [1, 2, 3, 4, 5, 0] rfl)
          · replace h := sf_t c8 h
            exact hE62 _ _ _ _ _ h _ _ _ hP hD hS (lv_sub hl [5] rfl)
  suffices main : ∀ (H : Heap) (locs : List Loc) (ls : Array Slot), va_P D vwCl (wM k aM Mestimate Munit Msort Mwidth Mmany Mreading Mvariance Mcovariance Mline Mformulas Mroot Mkind Mone Mother Msigns Mplace MleftOf MrightOf Mtype Msum Msign MsignAt Mproduct Mvalue Mslope Mexponent Mdrawn Mslopes Mfrom Mfactor Mthrown Mlength Mmodels Mopen Mat Mrows Mx) H → va_D A (wM k aM Mestimate Munit Msort Mwidth Mmany Mreading Mvariance Mcovariance Mline Mformulas Mroot Mkind Mone Mother Msigns Mplace MleftOf MrightOf Mtype Msum Msign MsignAt Mproduct Mvalue Mslope Mexponent Mdrawn Mslopes Mfrom Mfactor Mthrown Mlength Mmodels Mopen Mat Mrows Mx) → va_S A s.heap H locs → lv_has ls 6 [(0, .ref (aM 0)), (1, .int v1), (2, .int v2), (3, .int v3)] → W p l e rmX7_formula s m args below meth c H locs 0 0 Q (F0 m 0 ls []) from main _ _ _ hP hD hS hl
  clear hP hD hS hl ls hAe
  intro H locs ls hP hD hS hl
  refine lv_sipush (v := 512) hx hb dX7_formula_0 (by decide) ?_
  refine lv_istore (lv' := [(4, .int 512), (0, .ref (aM 0)), (1, .int v1), (2, .int v2), (3, .int v3)]) hx hb dX7_formula_3 hl (by decide) rfl (fun ls hl => ?_)
  refine lv_iconst (v := 0) hx hb dX7_formula_5 (by decide) ?_
  refine lv_istore (lv' := [(5, .int 0), (4, .int 512), (0, .ref (aM 0)), (1, .int v1), (2, .int v2), (3, .int v3)]) hx hb dX7_formula_6 hl (by decide) rfl (fun ls hl => ?_)
  refine LH_8 _ (fun v5 Mformulas Mkind Mone Mother h H locs ls hP hD hS hl => ?_) _ (fun v4 Mformulas Mkind Mone Mother h H locs ls hP hD hS hl => ?_) _ _ _ _ _ _ _ h _ _ _ hP hD hS (lv_sub hl [2, 3, 4, 5, 1, 0] rfl)
  · skip
    refine lv_iload hx hb dX7_formula_62 (lv_at hl 0 rfl) ?_
    have hP9 := hP
    have hD9 := hD
    have hS9 := hS
    subst hQ
    cases h
    exact W.iret hx hb hr (fun t ht hW => ⟨⟨_, (), rfl, rfl, by rw [ht]; exact hP9, va_K.moved hW.alike hK, hD9⟩, hS9.F ht⟩) hS9.2.2 dX7_formula_64
  · skip
    refine lv_aload_n hx hb dX7_formula_71 rfl (lv_at hl 0 rfl) ?_
    refine va_get (D := D) (ci := 7) (v := .ref (aM 10)) (C := RX7) (T := TX7) (N := 37) hx hb hts iX7 hown hK hP 0 rfl rfl 12 (by decide) f37 (fun _ h9 => h9) rfl dX7_formula_72 ?_
    refine lv_bipush (v := 8) hx hb dX7_formula_75 (by decide) ?_
    obtain ⟨hi9, h⟩ := gi_inv h
    refine va_iald hx hb hK hP 10 0 rfl rfl hi9 dX7_formula_77 ?_
    refine lv_istore (lv' := [(5, .int (Mformulas (8 : Int32).toNatClampNeg)), (0, .ref (aM 0)), (1, .int v1), (2, .int v2), (3, .int v3), (4, .int v4)]) hx hb dX7_formula_78 hl (by decide) rfl (fun ls hl => ?_)
    refine lv_aload_n hx hb dX7_formula_80 rfl (lv_at hl 1 rfl) ?_
    refine va_get (D := D) (ci := 7) (v := .ref (aM 12)) (C := RX7) (T := TX7) (N := 37) hx hb hts iX7 hown hK hP 0 rfl rfl 14 (by decide) f43 (fun _ h9 => h9) rfl dX7_formula_81 ?_
    refine lv_iload hx hb dX7_formula_84 (lv_at hl 5 rfl) ?_
    refine lv_iload hx hb dX7_formula_86 (lv_at hl 0 rfl) ?_
    refine lv_iadd hx hb dX7_formula_88 ?_
    refine lv_iload_n hx hb dX7_formula_89 rfl (lv_at hl 2 rfl) ?_
    obtain ⟨hi10, h⟩ := gi_inv h
    refine va_iast hx hb hK hP hD hS 12 0 rfl rfl hi10 dX7_formula_90 (fun H locs hP hD hS => ?_)
    replace hP : va_P D vwCl (wM k aM Mestimate Munit Msort Mwidth Mmany Mreading Mvariance Mcovariance Mline Mformulas Mroot (upd Mkind ((v4 + (Mformulas (8 : Int32).toNatClampNeg)).toNatClampNeg) v1) Mone Mother Msigns Mplace MleftOf MrightOf Mtype Msum Msign MsignAt Mproduct Mvalue Mslope Mexponent Mdrawn Mslopes Mfrom Mfactor Mthrown Mlength Mmodels Mopen Mat Mrows Mx) H := hP
    replace hD : va_D A (wM k aM Mestimate Munit Msort Mwidth Mmany Mreading Mvariance Mcovariance Mline Mformulas Mroot (upd Mkind ((v4 + (Mformulas (8 : Int32).toNatClampNeg)).toNatClampNeg) v1) Mone Mother Msigns Mplace MleftOf MrightOf Mtype Msum Msign MsignAt Mproduct Mvalue Mslope Mexponent Mdrawn Mslopes Mfrom Mfactor Mthrown Mlength Mmodels Mopen Mat Mrows Mx) := hD
    refine lv_aload_n hx hb dX7_formula_91 rfl (lv_at hl 1 rfl) ?_
    refine va_get (D := D) (ci := 7) (v := .ref (aM 13)) (C := RX7) (T := TX7) (N := 37) hx hb hts iX7 hown hK hP 0 rfl rfl 15 (by decide) f46 (fun _ h9 => h9) rfl dX7_formula_92 ?_
    refine lv_iload hx hb dX7_formula_95 (lv_at hl 5 rfl) ?_
    refine lv_iload hx hb dX7_formula_97 (lv_at hl 0 rfl) ?_
    refine lv_iadd hx hb dX7_formula_99 ?_
    refine lv_iload_n hx hb dX7_formula_100 rfl (lv_at hl 3 rfl) ?_
    obtain ⟨hi11, h⟩ := gi_inv h
    refine va_iast hx hb hK hP hD hS 13 0 rfl rfl hi11 dX7_formula_101 (fun H locs hP hD hS => ?_)
    replace hP : va_P D vwCl (wM k aM Mestimate Munit Msort Mwidth Mmany Mreading Mvariance Mcovariance Mline Mformulas Mroot (upd Mkind ((v4 + (Mformulas (8 : Int32).toNatClampNeg)).toNatClampNeg) v1) (upd Mone ((v4 + (Mformulas (8 : Int32).toNatClampNeg)).toNatClampNeg) v2) Mother Msigns Mplace MleftOf MrightOf Mtype Msum Msign MsignAt Mproduct Mvalue Mslope Mexponent Mdrawn Mslopes Mfrom Mfactor Mthrown Mlength Mmodels Mopen Mat Mrows Mx) H := hP
    replace hD : va_D A (wM k aM Mestimate Munit Msort Mwidth Mmany Mreading Mvariance Mcovariance Mline Mformulas Mroot (upd Mkind ((v4 + (Mformulas (8 : Int32).toNatClampNeg)).toNatClampNeg) v1) (upd Mone ((v4 + (Mformulas (8 : Int32).toNatClampNeg)).toNatClampNeg) v2) Mother Msigns Mplace MleftOf MrightOf Mtype Msum Msign MsignAt Mproduct Mvalue Mslope Mexponent Mdrawn Mslopes Mfrom Mfactor Mthrown Mlength Mmodels Mopen Mat Mrows Mx) := hD
    refine lv_aload_n hx hb dX7_formula_102 rfl (lv_at hl 1 rfl) ?_
    refine va_get (D := D) (ci := 7) (v := .ref (aM 14)) (C := RX7) (T := TX7) (N := 37) hx hb hts iX7 hown hK hP 0 rfl rfl 16 (by decide) f49 (fun _ h9 => h9) rfl dX7_formula_103 ?_
    refine lv_iload hx hb dX7_formula_106 (lv_at hl 5 rfl) ?_
    refine lv_iload hx hb dX7_formula_108 (lv_at hl 0 rfl) ?_
    refine lv_iadd hx hb dX7_formula_110 ?_
    refine lv_iload_n hx hb dX7_formula_111 rfl (lv_at hl 4 rfl) ?_
    obtain ⟨hi12, h⟩ := gi_inv h
    refine va_iast hx hb hK hP hD hS 14 0 rfl rfl hi12 dX7_formula_112 (fun H locs hP hD hS => ?_)
    replace hP : va_P D vwCl (wM k aM Mestimate Munit Msort Mwidth Mmany Mreading Mvariance Mcovariance Mline Mformulas Mroot (upd Mkind ((v4 + (Mformulas (8 : Int32).toNatClampNeg)).toNatClampNeg) v1) (upd Mone ((v4 + (Mformulas (8 : Int32).toNatClampNeg)).toNatClampNeg) v2) (upd Mother ((v4 + (Mformulas (8 : Int32).toNatClampNeg)).toNatClampNeg) v3) Msigns Mplace MleftOf MrightOf Mtype Msum Msign MsignAt Mproduct Mvalue Mslope Mexponent Mdrawn Mslopes Mfrom Mfactor Mthrown Mlength Mmodels Mopen Mat Mrows Mx) H := hP
    replace hD : va_D A (wM k aM Mestimate Munit Msort Mwidth Mmany Mreading Mvariance Mcovariance Mline Mformulas Mroot (upd Mkind ((v4 + (Mformulas (8 : Int32).toNatClampNeg)).toNatClampNeg) v1) (upd Mone ((v4 + (Mformulas (8 : Int32).toNatClampNeg)).toNatClampNeg) v2) (upd Mother ((v4 + (Mformulas (8 : Int32).toNatClampNeg)).toNatClampNeg) v3) Msigns Mplace MleftOf MrightOf Mtype Msum Msign MsignAt Mproduct Mvalue Mslope Mexponent Mdrawn Mslopes Mfrom Mfactor Mthrown Mlength Mmodels Mopen Mat Mrows Mx) := hD
    refine lv_aload_n hx hb dX7_formula_113 rfl (lv_at hl 1 rfl) ?_
    refine va_get (D := D) (ci := 7) (v := .ref (aM 10)) (C := RX7) (T := TX7) (N := 37) hx hb hts iX7 hown hK hP 0 rfl rfl 12 (by decide) f37 (fun _ h9 => h9) rfl dX7_formula_114 ?_
    refine lv_bipush (v := 8) hx hb dX7_formula_117 (by decide) ?_
    refine lv_dup2_11 hx hb dX7_formula_119 rfl rfl ?_
    obtain ⟨hi13, h⟩ := gi_inv h
    refine va_iald hx hb hK hP 10 0 rfl rfl hi13 dX7_formula_120 ?_
    refine lv_iconst (v := 1) hx hb dX7_formula_121 (by decide) ?_
    refine lv_iadd hx hb dX7_formula_122 ?_
    obtain ⟨hi14, h⟩ := gi_inv h
    refine va_iast hx hb hK hP hD hS 10 0 rfl rfl hi14 dX7_formula_123 (fun H locs hP hD hS => ?_)
    replace hP : va_P D vwCl (wM k aM Mestimate Munit Msort Mwidth Mmany Mreading Mvariance Mcovariance Mline (upd Mformulas ((8 : Int32).toNatClampNeg) ((Mformulas (8 : Int32).toNatClampNeg) + 1)) Mroot (upd Mkind ((v4 + (Mformulas (8 : Int32).toNatClampNeg)).toNatClampNeg) v1) (upd Mone ((v4 + (Mformulas (8 : Int32).toNatClampNeg)).toNatClampNeg) v2) (upd Mother ((v4 + (Mformulas (8 : Int32).toNatClampNeg)).toNatClampNeg) v3) Msigns Mplace MleftOf MrightOf Mtype Msum Msign MsignAt Mproduct Mvalue Mslope Mexponent Mdrawn Mslopes Mfrom Mfactor Mthrown Mlength Mmodels Mopen Mat Mrows Mx) H := hP
    replace hD : va_D A (wM k aM Mestimate Munit Msort Mwidth Mmany Mreading Mvariance Mcovariance Mline (upd Mformulas ((8 : Int32).toNatClampNeg) ((Mformulas (8 : Int32).toNatClampNeg) + 1)) Mroot (upd Mkind ((v4 + (Mformulas (8 : Int32).toNatClampNeg)).toNatClampNeg) v1) (upd Mone ((v4 + (Mformulas (8 : Int32).toNatClampNeg)).toNatClampNeg) v2) (upd Mother ((v4 + (Mformulas (8 : Int32).toNatClampNeg)).toNatClampNeg) v3) Msigns Mplace MleftOf MrightOf Mtype Msum Msign MsignAt Mproduct Mvalue Mslope Mexponent Mdrawn Mslopes Mfrom Mfactor Mthrown Mlength Mmodels Mopen Mat Mrows Mx) := hD
    refine lv_iload hx hb dX7_formula_124 (lv_at hl 0 rfl) ?_
    have hP9 := hP
    have hD9 := hD
    have hS9 := hS
    subst hQ
    cases h
    exact W.iret hx hb hr (fun t ht hW => ⟨⟨_, (), rfl, rfl, by rw [ht]; exact hP9, va_K.moved hW.alike hK, hD9⟩, hS9.F ht⟩) hS9.2.2 dX7_formula_126
def fX7_sign (Mline : Nat → Int32) (Mlength : Int32) (Mat : Int32) : Option (Int32) := (if Mlength ≤ Mat then some (0) else gi Mat 64 (some (Mline Mat.toNatClampNeg)))
abbrev rmX7_sign : Room := { frames := 0, cells := 0, slots := 0, locals := 0 }
set_option maxHeartbeats 4000000 in
set_option maxRecDepth 100000 in
theorem met_X7_sign (l : Launch) (D : va_G) (k : Nat → ClassId)  (aM : Nat → Nat) (sz : Nat) (Mestimate : Nat → Int32) (Munit : Nat → Int32) (Msort : Nat → Int32) (Mwidth : Nat → Int32) (Mmany : Nat → Int32) (Mreading : Nat → Int32) (Mvariance : Nat → Int32) (Mcovariance : Nat → Int32) (Mline : Nat → Int32) (Mformulas : Nat → Int32) (Mroot : Nat → Int32) (Mkind : Nat → Int32) (Mone : Nat → Int32) (Mother : Nat → Int32) (Msigns : Nat → Int32) (Mplace : Nat → Int32) (MleftOf : Nat → Int32) (MrightOf : Nat → Int32) (Mtype : Nat → Int32) (Msum : Nat → Int32) (Msign : Nat → Int32) (MsignAt : Nat → Int32) (Mproduct : Nat → Int32) (Mvalue : Nat → Int64) (Mslope : Nat → Int64) (Mexponent : Nat → Int32) (Mdrawn : Nat → Int32) (Mslopes : Nat → Int64) (Mfrom : Nat → Int32) (Mfactor : Nat → Int32) (Mthrown : Int32) (Mlength : Int32) (Mmodels : Int32) (Mopen : Int32) (Mat : Int32) (Mrows : Int32) (Mx : Int32)  (r : Int32) (h : fX7_sign Mline Mlength Mat = some r) : Met l yX7_sign wsX7_sign rmX7_sign (va_Pc [.ref (aM 0)] (PreW D k (wM k aM Mestimate Munit Msort Mwidth Mmany Mreading Mvariance Mcovariance Mline Mformulas Mroot Mkind Mone Mother Msigns Mplace MleftOf MrightOf Mtype Msum Msign MsignAt Mproduct Mvalue Mslope Mexponent Mdrawn Mslopes Mfrom Mfactor Mthrown Mlength Mmodels Mopen Mat Mrows Mx) sz)) (va_Qi (fun r9 (_ : Unit) => r9 = r) (fun _ t => PostW D k (va_A (wM k aM Mestimate Munit Msort Mwidth Mmany Mreading Mvariance Mcovariance Mline Mformulas Mroot Mkind Mone Mother Msigns Mplace MleftOf MrightOf Mtype Msum Msign MsignAt Mproduct Mvalue Mslope Mexponent Mdrawn Mslopes Mfrom Mfactor Mthrown Mlength Mmodels Mopen Mat Mrows Mx) sz) (wM k aM Mestimate Munit Msort Mwidth Mmany Mreading Mvariance Mcovariance Mline Mformulas Mroot Mkind Mone Mother Msigns Mplace MleftOf MrightOf Mtype Msum Msign MsignAt Mproduct Mvalue Mslope Mexponent Mdrawn Mslopes Mfrom Mfactor Mthrown Mlength Mmodels Mopen Mat Mrows Mx) t) (va_A (wM k aM Mestimate Munit Msort Mwidth Mmany Mreading Mvariance Mcovariance Mline Mformulas Mroot Mkind Mone Mother Msigns Mplace MleftOf MrightOf Mtype Msum Msign MsignAt Mproduct Mvalue Mslope Mexponent Mdrawn Mslopes Mfrom Mfactor Mthrown Mlength Mmodels Mopen Mat Mrows Mx) sz)) 0 0 (va_A (wM k aM Mestimate Munit Msort Mwidth Mmany Mreading Mvariance Mcovariance Mline Mformulas Mroot Mkind Mone Mother Msigns Mplace MleftOf MrightOf Mtype Msum Msign MsignAt Mproduct Mvalue Mslope Mexponent Mdrawn Mslopes Mfrom Mfactor Mthrown Mlength Mmodels Mopen Mat Mrows Mx) sz) := by
  refine Met.ofW (cc := cX7_sign) (maxL := 1) (ret := (some .int)) (by decide) rfl ?_
  intro p e s m args below meth c s₁ B hml hv
  obtain ⟨hav, hsz, hP, hK, hD0⟩ := hv
  have hx := B.exec
  have hb := B.bytes
  have hr := B.returns
  have hts := atoms_spec (ws := wsX7_sign) B.pre
  have hown : s.vm.findClass RX7 = some m.cls := findClass_of_methodNamed B.named
  have hlocks := B.notSynchronized
  subst hsz
  have hD := hD0.self (sz := s.heap.size)
  clear hD0
  generalize hAe : va_A (wM k aM Mestimate Munit Msort Mwidth Mmany Mreading Mvariance Mcovariance Mline Mformulas Mroot Mkind Mone Mother Msigns Mplace MleftOf MrightOf Mtype Msum Msign MsignAt Mproduct Mvalue Mslope Mexponent Mdrawn Mslopes Mfrom Mfactor Mthrown Mlength Mmodels Mopen Mat Mrows Mx) s.heap.size = A at hD ⊢
  have hA : ∀ q : Nat, s.heap.size ≤ q → A q := fun q h => by rw [← hAe]; exact Or.inr h
  have hS : va_S A s.heap s.heap [] := va_S.rf
  have hl := lv_entry ([.ref (aM 0)]) (n := 1) (Nat.le_of_ble_eq_true rfl)
  rw [show entryFrame m args 1 = entryFrame m ([.ref (aM 0)] : List Value).toArray 1 from by rw [hav], lg_entry_eq]
  generalize (lg_sl ([.ref (aM 0)]) ++ List.replicate (1 - (lg_sl ([.ref (aM 0)])).length) Slot.unset).toArray = ls at hl ⊢
  replace hl : lv_has ls 1 [(0, .ref (aM 0))] := hl
  have f34 := hts (.fieldLink RX7 34 "UncertainBookModel" "line" "[I") (by decide +kernel)
  have f136 := hts (.fieldLink RX7 136 "UncertainBookModel" "length" "I") (by decide +kernel)
  have f139 := hts (.fieldLink RX7 139 "UncertainBookModel" "at" "I") (by decide +kernel)
  have iX7 : ∀ w ∈ u_ws RX7 TX7 37, w ∈ wsX7_sign := by decide +kernel
  refine w_q (fun Q hQ => ?_)
  unfold fX7_sign at h
  show W p l e rmX7_sign s m args below meth c s.heap [] 0 0 Q (F0 m 0 ls [])
  suffices main : ∀ (H : Heap) (locs : List Loc) (ls : Array Slot), va_P D vwCl (wM k aM Mestimate Munit Msort Mwidth Mmany Mreading Mvariance Mcovariance Mline Mformulas Mroot Mkind Mone Mother Msigns Mplace MleftOf MrightOf Mtype Msum Msign MsignAt Mproduct Mvalue Mslope Mexponent Mdrawn Mslopes Mfrom Mfactor Mthrown Mlength Mmodels Mopen Mat Mrows Mx) H → va_D A (wM k aM Mestimate Munit Msort Mwidth Mmany Mreading Mvariance Mcovariance Mline Mformulas Mroot Mkind Mone Mother Msigns Mplace MleftOf MrightOf Mtype Msum Msign MsignAt Mproduct Mvalue Mslope Mexponent Mdrawn Mslopes Mfrom Mfactor Mthrown Mlength Mmodels Mopen Mat Mrows Mx) → va_S A s.heap H locs → lv_has ls 1 [(0, .ref (aM 0))] → W p l e rmX7_sign s m args below meth c H locs 0 0 Q (F0 m 0 ls []) from main _ _ _ hP hD hS hl
  clear hP hD hS hl ls hAe
  intro H locs ls hP hD hS hl
  refine lv_aload_n hx hb dX7_sign_0 rfl (lv_at hl 0 rfl) ?_
  refine va_get (D := D) (ci := 7) (v := .int Mat) (C := RX7) (T := TX7) (N := 37) hx hb hts iX7 hown hK hP 0 rfl rfl 27 (by decide) f139 (fun _ h9 => h9) rfl dX7_sign_1 ?_
  refine lv_aload_n hx hb dX7_sign_4 rfl (lv_at hl 0 rfl) ?_
  refine va_get (D := D) (ci := 7) (v := .int Mlength) (C := RX7) (T := TX7) (N := 37) hx hb hts iX7 hown hK hP 0 rfl rfl 10 (by decide) f136 (fun _ h9 => h9) rfl dX7_sign_5 ?_
  refine lv_icmp_ge (tgt := 23) hx hb dX7_sign_8 (by decide) (fun c1 => ?_) (fun c1 => ?_)
  · replace h := sf_t c1 h
    refine lv_iconst (v := 0) hx hb dX7_sign_23 (by decide) ?_
    have hP9 := hP
    have hD9 := hD
    have hS9 := hS
    subst hQ
    cases h
    exact W.iret hx hb hr (fun t ht hW => ⟨⟨_, (), rfl, rfl, by rw [ht]; exact hP9, va_K.moved hW.alike hK, hD9⟩, hS9.F ht⟩) hS9.2.2 dX7_sign_24
  · replace h := sf_f c1 h
    refine lv_aload_n hx hb dX7_sign_11 rfl (lv_at hl 0 rfl) ?_
    refine va_get (D := D) (ci := 7) (v := .ref (aM 9)) (C := RX7) (T := TX7) (N := 37) hx hb hts iX7 hown hK hP 0 rfl rfl 9 (by decide) f34 (fun _ h9 => h9) rfl dX7_sign_12 ?_
    refine lv_aload_n hx hb dX7_sign_15 rfl (lv_at hl 0 rfl) ?_
    refine va_get (D := D) (ci := 7) (v := .int Mat) (C := RX7) (T := TX7) (N := 37) hx hb hts iX7 hown hK hP 0 rfl rfl 27 (by decide) f139 (fun _ h9 => h9) rfl dX7_sign_16 ?_
    obtain ⟨hi2, h⟩ := gi_inv h
    refine va_iald hx hb hK hP 9 0 rfl rfl hi2 dX7_sign_19 ?_
    refine lv_goto (tgt := 24) hx hb dX7_sign_20 (by decide) ?_
    have hP9 := hP
    have hD9 := hD
    have hS9 := hS
    subst hQ
    cases h
    exact W.iret hx hb hr (fun t ht hW => ⟨⟨_, (), rfl, rfl, by rw [ht]; exact hP9, va_K.moved hW.alike hK, hD9⟩, hS9.F ht⟩) hS9.2.2 dX7_sign_24
def fX7_isDigit (v0 : Int32) : Option (Int32) := bnd1 (fX7_isIn v0 48 57) (fun r1 => gn .boolean r1 (some (r1)))
abbrev rmX7_isDigit : Room := { frames := 1, cells := 0, slots := 0, locals := 22 }
set_option maxHeartbeats 4000000 in
set_option maxRecDepth 100000 in
theorem met_X7_isDigit (l : Launch) (D : va_G) (k : Nat → ClassId)   (sz : Nat)  (v0 : Int32) (r : Int32) (h : fX7_isDigit v0 = some r) : Met l yX7_isDigit wsX7_isDigit rmX7_isDigit (va_Pc [.int v0] (PreW D k ([] : va_W) sz)) (va_Qi (fun r9 (_ : Unit) => r9 = r) (fun _ t => PostW D k (va_A ([] : va_W) sz) ([] : va_W) t) (va_A ([] : va_W) sz)) 0 0 (va_A ([] : va_W) sz) := by
  refine Met.ofW (cc := cX7_isDigit) (maxL := 1) (ret := (some .boolean)) (by decide) rfl ?_
  intro p e s m args below meth c s₁ B hml hv
  obtain ⟨hav, hsz, hP, hK, hD0⟩ := hv
  have hx := B.exec
  have hb := B.bytes
  have hr := B.returns
  have hts := atoms_spec (ws := wsX7_isDigit) B.pre
  have hown : s.vm.findClass RX7 = some m.cls := findClass_of_methodNamed B.named
  have hlocks := B.notSynchronized
  subst hsz
  have hD := hD0.self (sz := s.heap.size)
  clear hD0
  generalize hAe : va_A ([] : va_W) s.heap.size = A at hD ⊢
  have hA : ∀ q : Nat, s.heap.size ≤ q → A q := fun q h => by rw [← hAe]; exact Or.inr h
  have hS : va_S A s.heap s.heap [] := va_S.rf
  have hl := lv_entry ([.int v0]) (n := 1) (Nat.le_of_ble_eq_true rfl)
  rw [show entryFrame m args 1 = entryFrame m ([.int v0] : List Value).toArray 1 from by rw [hav], lg_entry_eq]
  generalize (lg_sl ([.int v0]) ++ List.replicate (1 - (lg_sl ([.int v0])).length) Slot.unset).toArray = ls at hl ⊢
  replace hl : lv_has ls 1 [(0, .int v0)] := hl
  refine w_q (fun Q hQ => ?_)
  unfold fX7_isDigit at h
  show W p l e rmX7_isDigit s m args below meth c s.heap [] 0 0 Q (F0 m 0 ls [])
  suffices main : ∀ (H : Heap) (locs : List Loc) (ls : Array Slot), va_P D vwCl ([] : va_W) H → va_D A ([] : va_W) → va_S A s.heap H locs → lv_has ls 1 [(0, .int v0)] → W p l e rmX7_isDigit s m args below meth c H locs 0 0 Q (F0 m 0 ls []) from main _ _ _ hP hD hS hl
  clear hP hD hS hl ls hAe
  intro H locs ls hP hD hS hl
  refine lv_iload_n hx hb dX7_isDigit_0 rfl (lv_at hl 0 rfl) ?_
  refine lv_bipush (v := 48) hx hb dX7_isDigit_1 (by decide) ?_
  refine lv_bipush (v := 57) hx hb dX7_isDigit_3 (by decide) ?_
  obtain ⟨r1, hc1, h⟩ := bnd1_inv h
  have hFc := va_free (wc := ([] : va_W)) hD hS hA [] rfl
  refine xc_i (va_runS (As := [.int v0, .int 48, .int 57]) (rest := []) ⟨hx, hb, hml, hown, hts⟩ (met_X7_isIn l D k  H.size v0 48 57 r1 hc1) (va_cwS 3 hts gX7_isDigit_X7_isIn rfl rfl rfl (by decide +kernel) ⟨Nat.le_of_ble_eq_true rfl, Nat.le_of_ble_eq_true rfl⟩) ⟨pw_blind, pw_start hP hK hD⟩ rfl rfl hl.1 rfl (lv_room (Nat.le_of_ble_eq_true rfl)) dX7_isDigit_5 ⟨Nat.zero_le _, Nat.zero_le _⟩) hS hFc (fun H1 locs hP1 hD1 hk1 hS => ?_)
  obtain ⟨hP, hD⟩ := vj_all hFc hP1 hD1
  clear hP1 hD1 hk1 hFc
  generalize H1 = H at hP hS ⊢
  obtain ⟨hnr, h⟩ := gn_inv h
  have hP9 := hP
  have hD9 := hD
  have hS9 := hS
  subst hQ
  cases h
  exact W.zret hx hb hr hnr (fun t ht hW => ⟨⟨_, (), rfl, rfl, by rw [ht]; exact hP9, va_K.moved hW.alike hK, hD9⟩, hS9.F ht⟩) hS9.2.2 dX7_isDigit_8
def fX7_opens (v1 : Int32) (Mtype : Nat → Int32) (Msum : Nat → Int32) (Mproduct : Nat → Int32) (Mopen : Int32) : Option ((Nat → Int32) × (Nat → Int32) × (Nat → Int32) × Int32) := gi (Mopen + 1) 9 (gi (Mopen + 1) 9 (gi (Mopen + 1) 9 (some (upd Mtype ((Mopen + 1).toNatClampNeg) v1, upd Msum ((Mopen + 1).toNatClampNeg) ((-1)), upd Mproduct ((Mopen + 1).toNatClampNeg) ((-1)), Mopen + 1))))
abbrev rmX7_opens : Room := { frames := 0, cells := 0, slots := 0, locals := 0 }
set_option maxHeartbeats 4000000 in
set_option maxRecDepth 100000 in
theorem met_X7_opens (l : Launch) (D : va_G) (k : Nat → ClassId)  (aM : Nat → Nat) (sz : Nat) (Mestimate : Nat → Int32) (Munit : Nat → Int32) (Msort : Nat → Int32) (Mwidth : Nat → Int32) (Mmany : Nat → Int32) (Mreading : Nat → Int32) (Mvariance : Nat → Int32) (Mcovariance : Nat → Int32) (Mline : Nat → Int32) (Mformulas : Nat → Int32) (Mroot : Nat → Int32) (Mkind : Nat → Int32) (Mone : Nat → Int32) (Mother : Nat → Int32) (Msigns : Nat → Int32) (Mplace : Nat → Int32) (MleftOf : Nat → Int32) (MrightOf : Nat → Int32) (Mtype : Nat → Int32) (Msum : Nat → Int32) (Msign : Nat → Int32) (MsignAt : Nat → Int32) (Mproduct : Nat → Int32) (Mvalue : Nat → Int64) (Mslope : Nat → Int64) (Mexponent : Nat → Int32) (Mdrawn : Nat → Int32) (Mslopes : Nat → Int64) (Mfrom : Nat → Int32) (Mfactor : Nat → Int32) (Mthrown : Int32) (Mlength : Int32) (Mmodels : Int32) (Mopen : Int32) (Mat : Int32) (Mrows : Int32) (Mx : Int32) (v1 : Int32) (RMtype : Nat → Int32) (RMsum : Nat → Int32) (RMproduct : Nat → Int32) (RMopen : Int32) (h : fX7_opens v1 Mtype Msum Mproduct Mopen = some (RMtype, RMsum, RMproduct, RMopen)) : Met l yX7_opens wsX7_opens rmX7_opens (va_Pc [.ref (aM 0), .int v1] (PreW D k (wM k aM Mestimate Munit Msort Mwidth Mmany Mreading Mvariance Mcovariance Mline Mformulas Mroot Mkind Mone Mother Msigns Mplace MleftOf MrightOf Mtype Msum Msign MsignAt Mproduct Mvalue Mslope Mexponent Mdrawn Mslopes Mfrom Mfactor Mthrown Mlength Mmodels Mopen Mat Mrows Mx) sz)) (va_Qv (fun _ : Unit => True) (fun _ t => PostW D k (va_A (wM k aM Mestimate Munit Msort Mwidth Mmany Mreading Mvariance Mcovariance Mline Mformulas Mroot Mkind Mone Mother Msigns Mplace MleftOf MrightOf Mtype Msum Msign MsignAt Mproduct Mvalue Mslope Mexponent Mdrawn Mslopes Mfrom Mfactor Mthrown Mlength Mmodels Mopen Mat Mrows Mx) sz) (wM k aM Mestimate Munit Msort Mwidth Mmany Mreading Mvariance Mcovariance Mline Mformulas Mroot Mkind Mone Mother Msigns Mplace MleftOf MrightOf RMtype RMsum Msign MsignAt RMproduct Mvalue Mslope Mexponent Mdrawn Mslopes Mfrom Mfactor Mthrown Mlength Mmodels RMopen Mat Mrows Mx) t) (va_A (wM k aM Mestimate Munit Msort Mwidth Mmany Mreading Mvariance Mcovariance Mline Mformulas Mroot Mkind Mone Mother Msigns Mplace MleftOf MrightOf Mtype Msum Msign MsignAt Mproduct Mvalue Mslope Mexponent Mdrawn Mslopes Mfrom Mfactor Mthrown Mlength Mmodels Mopen Mat Mrows Mx) sz)) 0 0 (va_A (wM k aM Mestimate Munit Msort Mwidth Mmany Mreading Mvariance Mcovariance Mline Mformulas Mroot Mkind Mone Mother Msigns Mplace MleftOf MrightOf Mtype Msum Msign MsignAt Mproduct Mvalue Mslope Mexponent Mdrawn Mslopes Mfrom Mfactor Mthrown Mlength Mmodels Mopen Mat Mrows Mx) sz) := by
  refine Met.ofW (cc := cX7_opens) (maxL := 2) (ret := none) (by decide) rfl ?_
  intro p e s m args below meth c s₁ B hml hv
  obtain ⟨hav, hsz, hP, hK, hD0⟩ := hv
  have hx := B.exec
  have hb := B.bytes
  have hr := B.returns
  have hts := atoms_spec (ws := wsX7_opens) B.pre
  have hown : s.vm.findClass RX7 = some m.cls := findClass_of_methodNamed B.named
  have hlocks := B.notSynchronized
  subst hsz
  have hD := hD0.self (sz := s.heap.size)
  clear hD0
  generalize hAe : va_A (wM k aM Mestimate Munit Msort Mwidth Mmany Mreading Mvariance Mcovariance Mline Mformulas Mroot Mkind Mone Mother Msigns Mplace MleftOf MrightOf Mtype Msum Msign MsignAt Mproduct Mvalue Mslope Mexponent Mdrawn Mslopes Mfrom Mfactor Mthrown Mlength Mmodels Mopen Mat Mrows Mx) s.heap.size = A at hD ⊢
  have hA : ∀ q : Nat, s.heap.size ≤ q → A q := fun q h => by rw [← hAe]; exact Or.inr h
  have hS : va_S A s.heap s.heap [] := va_S.rf
  have hl := lv_entry ([.ref (aM 0), .int v1]) (n := 2) (Nat.le_of_ble_eq_true rfl)
  rw [show entryFrame m args 2 = entryFrame m ([.ref (aM 0), .int v1] : List Value).toArray 2 from by rw [hav], lg_entry_eq]
  generalize (lg_sl ([.ref (aM 0), .int v1]) ++ List.replicate (2 - (lg_sl ([.ref (aM 0), .int v1])).length) Slot.unset).toArray = ls at hl ⊢
  replace hl : lv_has ls 2 [(0, .ref (aM 0)), (1, .int v1)] := hl
  have f64 := hts (.fieldLink RX7 64 "UncertainBookModel" "type" "[I") (by decide +kernel)
  have f67 := hts (.fieldLink RX7 67 "UncertainBookModel" "sum" "[I") (by decide +kernel)
  have f76 := hts (.fieldLink RX7 76 "UncertainBookModel" "product" "[I") (by decide +kernel)
  have f142 := hts (.fieldLink RX7 142 "UncertainBookModel" "open" "I") (by decide +kernel)
  have iX7 : ∀ w ∈ u_ws RX7 TX7 37, w ∈ wsX7_opens := by decide +kernel
  refine w_q (fun Q hQ => ?_)
  unfold fX7_opens at h
  show W p l e rmX7_opens s m args below meth c s.heap [] 0 0 Q (F0 m 0 ls [])
  suffices main : ∀ (H : Heap) (locs : List Loc) (ls : Array Slot), va_P D vwCl (wM k aM Mestimate Munit Msort Mwidth Mmany Mreading Mvariance Mcovariance Mline Mformulas Mroot Mkind Mone Mother Msigns Mplace MleftOf MrightOf Mtype Msum Msign MsignAt Mproduct Mvalue Mslope Mexponent Mdrawn Mslopes Mfrom Mfactor Mthrown Mlength Mmodels Mopen Mat Mrows Mx) H → va_D A (wM k aM Mestimate Munit Msort Mwidth Mmany Mreading Mvariance Mcovariance Mline Mformulas Mroot Mkind Mone Mother Msigns Mplace MleftOf MrightOf Mtype Msum Msign MsignAt Mproduct Mvalue Mslope Mexponent Mdrawn Mslopes Mfrom Mfactor Mthrown Mlength Mmodels Mopen Mat Mrows Mx) → va_S A s.heap H locs → lv_has ls 2 [(0, .ref (aM 0)), (1, .int v1)] → W p l e rmX7_opens s m args below meth c H locs 0 0 Q (F0 m 0 ls []) from main _ _ _ hP hD hS hl
  clear hP hD hS hl ls hAe
  intro H locs ls hP hD hS hl
  refine lv_aload_n hx hb dX7_opens_0 rfl (lv_at hl 0 rfl) ?_
  refine lv_dup hx hb dX7_opens_1 rfl ?_
  refine va_get (D := D) (ci := 7) (v := .int Mopen) (C := RX7) (T := TX7) (N := 37) hx hb hts iX7 hown hK hP 0 rfl rfl 21 (by decide) f142 (fun _ h9 => h9) rfl dX7_opens_2 ?_
  refine lv_iconst (v := 1) hx hb dX7_opens_5 (by decide) ?_
  refine lv_iadd hx hb dX7_opens_6 ?_
  refine va_put (D := D) (ci := 7) (v := .int (Mopen + 1)) (ty := .int) (C := RX7) (T := TX7) (N := 37) hx hb hts iX7 tyX7 tyX7_ok nmX7 hown hK hP hD hS 0 rfl rfl 21 (by decide) f142 (fun _ h9 => h9) rfl (by decide +kernel) rfl rfl (Nat.le_of_ble_eq_true rfl) dX7_opens_7 (fun H locs hP hD hS => ?_)
  replace hP : va_P D vwCl (wM k aM Mestimate Munit Msort Mwidth Mmany Mreading Mvariance Mcovariance Mline Mformulas Mroot Mkind Mone Mother Msigns Mplace MleftOf MrightOf Mtype Msum Msign MsignAt Mproduct Mvalue Mslope Mexponent Mdrawn Mslopes Mfrom Mfactor Mthrown Mlength Mmodels (Mopen + 1) Mat Mrows Mx) H := hP
  replace hD : va_D A (wM k aM Mestimate Munit Msort Mwidth Mmany Mreading Mvariance Mcovariance Mline Mformulas Mroot Mkind Mone Mother Msigns Mplace MleftOf MrightOf Mtype Msum Msign MsignAt Mproduct Mvalue Mslope Mexponent Mdrawn Mslopes Mfrom Mfactor Mthrown Mlength Mmodels (Mopen + 1) Mat Mrows Mx) := hD
  refine lv_aload_n hx hb dX7_opens_10 rfl (lv_at hl 0 rfl) ?_
  refine va_get (D := D) (ci := 7) (v := .ref (aM 19)) (C := RX7) (T := TX7) (N := 37) hx hb hts iX7 hown hK hP 0 rfl rfl 22 (by decide) f64 (fun _ h9 => h9) rfl dX7_opens_11 ?_
  refine lv_aload_n hx hb dX7_opens_14 rfl (lv_at hl 0 rfl) ?_
  refine va_get (D := D) (ci := 7) (v := .int (Mopen + 1)) (C := RX7) (T := TX7) (N := 37) hx hb hts iX7 hown hK hP 0 rfl rfl 21 (by decide) f142 (fun _ h9 => h9) rfl dX7_opens_15 ?_
  refine lv_iload_n hx hb dX7_opens_18 rfl (lv_at hl 1 rfl) ?_
  obtain ⟨hi1, h⟩ := gi_inv h
  refine va_iast hx hb hK hP hD hS 19 0 rfl rfl hi1 dX7_opens_19 (fun H locs hP hD hS => ?_)
  replace hP : va_P D vwCl (wM k aM Mestimate Munit Msort Mwidth Mmany Mreading Mvariance Mcovariance Mline Mformulas Mroot Mkind Mone Mother Msigns Mplace MleftOf MrightOf (upd Mtype ((Mopen + 1).toNatClampNeg) v1) Msum Msign MsignAt Mproduct Mvalue Mslope Mexponent Mdrawn Mslopes Mfrom Mfactor Mthrown Mlength Mmodels (Mopen + 1) Mat Mrows Mx) H := hP
  replace hD : va_D A (wM k aM Mestimate Munit Msort Mwidth Mmany Mreading Mvariance Mcovariance Mline Mformulas Mroot Mkind Mone Mother Msigns Mplace MleftOf MrightOf (upd Mtype ((Mopen + 1).toNatClampNeg) v1) Msum Msign MsignAt Mproduct Mvalue Mslope Mexponent Mdrawn Mslopes Mfrom Mfactor Mthrown Mlength Mmodels (Mopen + 1) Mat Mrows Mx) := hD
  refine lv_aload_n hx hb dX7_opens_20 rfl (lv_at hl 0 rfl) ?_
  refine va_get (D := D) (ci := 7) (v := .ref (aM 20)) (C := RX7) (T := TX7) (N := 37) hx hb hts iX7 hown hK hP 0 rfl rfl 23 (by decide) f67 (fun _ h9 => h9) rfl dX7_opens_21 ?_
  refine lv_aload_n hx hb dX7_opens_24 rfl (lv_at hl 0 rfl) ?_
  refine va_get (D := D) (ci := 7) (v := .int (Mopen + 1)) (C := RX7) (T := TX7) (N := 37) hx hb hts iX7 hown hK hP 0 rfl rfl 21 (by decide) f142 (fun _ h9 => h9) rfl dX7_opens_25 ?_
  refine lv_iconst (v := -1) hx hb dX7_opens_28 (by decide) ?_
  obtain ⟨hi2, h⟩ := gi_inv h
  refine va_iast hx hb hK hP hD hS 20 0 rfl rfl hi2 dX7_opens_29 (fun H locs hP hD hS => ?_)
  replace hP : va_P D vwCl (wM k aM Mestimate Munit Msort Mwidth Mmany Mreading Mvariance Mcovariance Mline Mformulas Mroot Mkind Mone Mother Msigns Mplace MleftOf MrightOf (upd Mtype ((Mopen + 1).toNatClampNeg) v1) (upd Msum ((Mopen + 1).toNatClampNeg) ((-1))) Msign MsignAt Mproduct Mvalue Mslope Mexponent Mdrawn Mslopes Mfrom Mfactor Mthrown Mlength Mmodels (Mopen + 1) Mat Mrows Mx) H := hP
  replace hD : va_D A (wM k aM Mestimate Munit Msort Mwidth Mmany Mreading Mvariance Mcovariance Mline Mformulas Mroot Mkind Mone Mother Msigns Mplace MleftOf MrightOf (upd Mtype ((Mopen + 1).toNatClampNeg) v1) (upd Msum ((Mopen + 1).toNatClampNeg) ((-1))) Msign MsignAt Mproduct Mvalue Mslope Mexponent Mdrawn Mslopes Mfrom Mfactor Mthrown Mlength Mmodels (Mopen + 1) Mat Mrows Mx) := hD
  refine lv_aload_n hx hb dX7_opens_30 rfl (lv_at hl 0 rfl) ?_
  refine va_get (D := D) (ci := 7) (v := .ref (aM 23)) (C := RX7) (T := TX7) (N := 37) hx hb hts iX7 hown hK hP 0 rfl rfl 26 (by decide) f76 (fun _ h9 => h9) rfl dX7_opens_31 ?_
  refine lv_aload_n hx hb dX7_opens_34 rfl (lv_at hl 0 rfl) ?_
  refine va_get (D := D) (ci := 7) (v := .int (Mopen + 1)) (C := RX7) (T := TX7) (N := 37) hx hb hts iX7 hown hK hP 0 rfl rfl 21 (by decide) f142 (fun _ h9 => h9) rfl dX7_opens_35 ?_
  refine lv_iconst (v := -1) hx hb dX7_opens_38 (by decide) ?_
  obtain ⟨hi3, h⟩ := gi_inv h
  refine va_iast hx hb hK hP hD hS 23 0 rfl rfl hi3 dX7_opens_39 (fun H locs hP hD hS => ?_)
  replace hP : va_P D vwCl (wM k aM Mestimate Munit Msort Mwidth Mmany Mreading Mvariance Mcovariance Mline Mformulas Mroot Mkind Mone Mother Msigns Mplace MleftOf MrightOf (upd Mtype ((Mopen + 1).toNatClampNeg) v1) (upd Msum ((Mopen + 1).toNatClampNeg) ((-1))) Msign MsignAt (upd Mproduct ((Mopen + 1).toNatClampNeg) ((-1))) Mvalue Mslope Mexponent Mdrawn Mslopes Mfrom Mfactor Mthrown Mlength Mmodels (Mopen + 1) Mat Mrows Mx) H := hP
  replace hD : va_D A (wM k aM Mestimate Munit Msort Mwidth Mmany Mreading Mvariance Mcovariance Mline Mformulas Mroot Mkind Mone Mother Msigns Mplace MleftOf MrightOf (upd Mtype ((Mopen + 1).toNatClampNeg) v1) (upd Msum ((Mopen + 1).toNatClampNeg) ((-1))) Msign MsignAt (upd Mproduct ((Mopen + 1).toNatClampNeg) ((-1))) Mvalue Mslope Mexponent Mdrawn Mslopes Mfrom Mfactor Mthrown Mlength Mmodels (Mopen + 1) Mat Mrows Mx) := hD
  have hP9 := hP
  have hD9 := hD
  have hS9 := hS
  subst hQ
  cases h
  exact W.vret hx hb hr (fun t ht hW => ⟨⟨(), rfl, trivial, by rw [ht]; exact hP9, va_K.moved hW.alike hK, hD9⟩, hS9.F ht⟩) hS9.2.2 dX7_opens_40
def LX7_atom_49 (Mline : Nat → Int32) (Mlength : Int32) (E93 : Int32 → (Nat → Int32) → (Nat → Int32) → (Nat → Int32) → (Nat → Int32) → Int32 → Option (Int32 × (Nat → Int32) × (Nat → Int32) × (Nat → Int32) × (Nat → Int32) × Int32)) : Nat → Int32 → Int32 → (Nat → Int32) → (Nat → Int32) → (Nat → Int32) → (Nat → Int32) → Int32 → Option (Int32 × (Nat → Int32) × (Nat → Int32) × (Nat → Int32) × (Nat → Int32) × Int32)
  | 0, _, _, _, _, _, _, _ => none
  | fuel + 1, v1, v2, Mformulas, Mkind, Mone, Mother, Mat => (if 4 ≤ v2 then E93 v1 Mformulas Mkind Mone Mother Mat else bnd1 (fX7_sign Mline Mlength Mat) (fun r5 => bnd1 (fX7_isDigit r5) (fun r6 => (if r6 = 0 then E93 v1 Mformulas Mkind Mone Mother Mat else bnd1 (fX7_sign Mline Mlength Mat) (fun r8 => LX7_atom_49 Mline Mlength E93 fuel (((10 * v1) + r8) - 48) (v2 + 1) Mformulas Mkind Mone Mother (Mat + 1))))))
def BX7_atom_93 (Mline : Nat → Int32) (Mlength : Int32)  (v1 : Int32) (Mformulas : Nat → Int32) (Mkind : Nat → Int32) (Mone : Nat → Int32) (Mother : Nat → Int32) (Mat : Int32) : Option (Int32 × (Nat → Int32) × (Nat → Int32) × (Nat → Int32) × (Nat → Int32) × Int32) := bnd5 (fX7_formula 0 v1 0 Mformulas Mkind Mone Mother) (fun r9 formulas_9 kind_9 one_9 other_9 => some (r9, formulas_9, kind_9, one_9, other_9, Mat))
def fX7_atom (Mline : Nat → Int32) (Mformulas : Nat → Int32) (Mkind : Nat → Int32) (Mone : Nat → Int32) (Mother : Nat → Int32) (Mlength : Int32) (Mat : Int32) : Option (Int32 × (Nat → Int32) × (Nat → Int32) × (Nat → Int32) × (Nat → Int32) × Int32) := bnd1 (fX7_sign Mline Mlength Mat) (fun r1 => bnd1 (fX7_isIn r1 97 102) (fun r2 => (if r2 = 0 then LX7_atom_49 Mline Mlength (fun (v1 : Int32) (Mformulas : Nat → Int32) (Mkind : Nat → Int32) (Mone : Nat → Int32) (Mother : Nat → Int32) (Mat : Int32) => BX7_atom_93 Mline Mlength v1 Mformulas Mkind Mone Mother Mat) 1000 0 0 Mformulas Mkind Mone Mother Mat else gi ((Mat + 1) - 1) 64 (bnd5 (fX7_formula 1 ((Mline ((Mat + 1) - 1).toNatClampNeg) - 97) 0 Mformulas Mkind Mone Mother) (fun r11 formulas_11 kind_11 one_11 other_11 => some (r11, formulas_11, kind_11, one_11, other_11, Mat + 1))))))
abbrev rmX7_atom : Room := { frames := 2, cells := 0, slots := 0, locals := 42 }
set_option maxHeartbeats 4000000 in
set_option maxRecDepth 100000 in
theorem met_X7_atom (l : Launch) (D : va_G) (k : Nat → ClassId)  (aM : Nat → Nat) (sz : Nat) (Mestimate : Nat → Int32) (Munit : Nat → Int32) (Msort : Nat → Int32) (Mwidth : Nat → Int32) (Mmany : Nat → Int32) (Mreading : Nat → Int32) (Mvariance : Nat → Int32) (Mcovariance : Nat → Int32) (Mline : Nat → Int32) (Mformulas : Nat → Int32) (Mroot : Nat → Int32) (Mkind : Nat → Int32) (Mone : Nat → Int32) (Mother : Nat → Int32) (Msigns : Nat → Int32) (Mplace : Nat → Int32) (MleftOf : Nat → Int32) (MrightOf : Nat → Int32) (Mtype : Nat → Int32) (Msum : Nat → Int32) (Msign : Nat → Int32) (MsignAt : Nat → Int32) (Mproduct : Nat → Int32) (Mvalue : Nat → Int64) (Mslope : Nat → Int64) (Mexponent : Nat → Int32) (Mdrawn : Nat → Int32) (Mslopes : Nat → Int64) (Mfrom : Nat → Int32) (Mfactor : Nat → Int32) (Mthrown : Int32) (Mlength : Int32) (Mmodels : Int32) (Mopen : Int32) (Mat : Int32) (Mrows : Int32) (Mx : Int32)  (r : Int32) (RMformulas : Nat → Int32) (RMkind : Nat → Int32) (RMone : Nat → Int32) (RMother : Nat → Int32) (RMat : Int32) (h : fX7_atom Mline Mformulas Mkind Mone Mother Mlength Mat = some (r, RMformulas, RMkind, RMone, RMother, RMat)) : Met l yX7_atom wsX7_atom rmX7_atom (va_Pc [.ref (aM 0)] (PreW D k (wM k aM Mestimate Munit Msort Mwidth Mmany Mreading Mvariance Mcovariance Mline Mformulas Mroot Mkind Mone Mother Msigns Mplace MleftOf MrightOf Mtype Msum Msign MsignAt Mproduct Mvalue Mslope Mexponent Mdrawn Mslopes Mfrom Mfactor Mthrown Mlength Mmodels Mopen Mat Mrows Mx) sz)) (va_Qi (fun r9 (_ : Unit) => r9 = r) (fun _ t => PostW D k (va_A (wM k aM Mestimate Munit Msort Mwidth Mmany Mreading Mvariance Mcovariance Mline Mformulas Mroot Mkind Mone Mother Msigns Mplace MleftOf MrightOf Mtype Msum Msign MsignAt Mproduct Mvalue Mslope Mexponent Mdrawn Mslopes Mfrom Mfactor Mthrown Mlength Mmodels Mopen Mat Mrows Mx) sz) (wM k aM Mestimate Munit Msort Mwidth Mmany Mreading Mvariance Mcovariance Mline RMformulas Mroot RMkind RMone RMother Msigns Mplace MleftOf MrightOf Mtype Msum Msign MsignAt Mproduct Mvalue Mslope Mexponent Mdrawn Mslopes Mfrom Mfactor Mthrown Mlength Mmodels Mopen RMat Mrows Mx) t) (va_A (wM k aM Mestimate Munit Msort Mwidth Mmany Mreading Mvariance Mcovariance Mline Mformulas Mroot Mkind Mone Mother Msigns Mplace MleftOf MrightOf Mtype Msum Msign MsignAt Mproduct Mvalue Mslope Mexponent Mdrawn Mslopes Mfrom Mfactor Mthrown Mlength Mmodels Mopen Mat Mrows Mx) sz)) 0 0 (va_A (wM k aM Mestimate Munit Msort Mwidth Mmany Mreading Mvariance Mcovariance Mline Mformulas Mroot Mkind Mone Mother Msigns Mplace MleftOf MrightOf Mtype Msum Msign MsignAt Mproduct Mvalue Mslope Mexponent Mdrawn Mslopes Mfrom Mfactor Mthrown Mlength Mmodels Mopen Mat Mrows Mx) sz) := by
  refine Met.ofW (cc := cX7_atom) (maxL := 3) (ret := (some .int)) (by decide) rfl ?_
  intro p e s m args below meth c s₁ B hml hv
  obtain ⟨hav, hsz, hP, hK, hD0⟩ := hv
  have hx := B.exec
  have hb := B.bytes
  have hr := B.returns
  have hts := atoms_spec (ws := wsX7_atom) B.pre
  have hown : s.vm.findClass RX7 = some m.cls := findClass_of_methodNamed B.named
  have hlocks := B.notSynchronized
  subst hsz
  have hD := hD0.self (sz := s.heap.size)
  clear hD0
  generalize hAe : va_A (wM k aM Mestimate Munit Msort Mwidth Mmany Mreading Mvariance Mcovariance Mline Mformulas Mroot Mkind Mone Mother Msigns Mplace MleftOf MrightOf Mtype Msum Msign MsignAt Mproduct Mvalue Mslope Mexponent Mdrawn Mslopes Mfrom Mfactor Mthrown Mlength Mmodels Mopen Mat Mrows Mx) s.heap.size = A at hD ⊢
  have hA : ∀ q : Nat, s.heap.size ≤ q → A q := fun q h => by rw [← hAe]; exact Or.inr h
  have hS : va_S A s.heap s.heap [] := va_S.rf
  have hl := lv_entry ([.ref (aM 0)]) (n := 3) (Nat.le_of_ble_eq_true rfl)
  rw [show entryFrame m args 3 = entryFrame m ([.ref (aM 0)] : List Value).toArray 3 from by rw [hav], lg_entry_eq]
  generalize (lg_sl ([.ref (aM 0)]) ++ List.replicate (3 - (lg_sl ([.ref (aM 0)])).length) Slot.unset).toArray = ls at hl ⊢
  replace hl : lv_has ls 3 [(0, .ref (aM 0))] := hl
  have f34 := hts (.fieldLink RX7 34 "UncertainBookModel" "line" "[I") (by decide +kernel)
  have f139 := hts (.fieldLink RX7 139 "UncertainBookModel" "at" "I") (by decide +kernel)
  have iX7 : ∀ w ∈ u_ws RX7 TX7 37, w ∈ wsX7_atom := by decide +kernel
  refine w_q (fun Q hQ => ?_)
  unfold fX7_atom at h
  show W p l e rmX7_atom s m args below meth c s.heap [] 0 0 Q (F0 m 0 ls [])
  have LH_49 : ∀ (E93 : Int32 → (Nat → Int32) → (Nat → Int32) → (Nat → Int32) → (Nat → Int32) → Int32 → Option (Int32 × (Nat → Int32) × (Nat → Int32) × (Nat → Int32) × (Nat → Int32) × Int32)) (hE93 : ∀ (v1 : Int32) (Mformulas : Nat → Int32) (Mkind : Nat → Int32) (Mone : Nat → Int32) (Mother : Nat → Int32) (Mat : Int32), E93 v1 Mformulas Mkind Mone Mother Mat = some (r, RMformulas, RMkind, RMone, RMother, RMat) → ∀ (H : Heap) (locs : List Loc) (ls : Array Slot), va_P D vwCl (wM k aM Mestimate Munit Msort Mwidth Mmany Mreading Mvariance Mcovariance Mline Mformulas Mroot Mkind Mone Mother Msigns Mplace MleftOf MrightOf Mtype Msum Msign MsignAt Mproduct Mvalue Mslope Mexponent Mdrawn Mslopes Mfrom Mfactor Mthrown Mlength Mmodels Mopen Mat Mrows Mx) H → va_D A (wM k aM Mestimate Munit Msort Mwidth Mmany Mreading Mvariance Mcovariance Mline Mformulas Mroot Mkind Mone Mother Msigns Mplace MleftOf MrightOf Mtype Msum Msign MsignAt Mproduct Mvalue Mslope Mexponent Mdrawn Mslopes Mfrom Mfactor Mthrown Mlength Mmodels Mopen Mat Mrows Mx) → va_S A s.heap H locs → lv_has ls 3 [(0, .ref (aM 0)), (1, .int v1)] → W p l e rmX7_atom s m args below meth c H locs 0 0 Q (F0 m 93 ls [])) (n : Nat) (v1 : Int32) (v2 : Int32) (Mformulas : Nat → Int32) (Mkind : Nat → Int32) (Mone : Nat → Int32) (Mother : Nat → Int32) (Mat : Int32), LX7_atom_49 Mline Mlength E93 n v1 v2 Mformulas Mkind Mone Mother Mat = some (r, RMformulas, RMkind, RMone, RMother, RMat) → ∀ (H : Heap) (locs : List Loc) (ls : Array Slot), va_P D vwCl (wM k aM Mestimate Munit Msort Mwidth Mmany Mreading Mvariance Mcovariance Mline Mformulas Mroot Mkind Mone Mother Msigns Mplace MleftOf MrightOf Mtype Msum Msign MsignAt Mproduct Mvalue Mslope Mexponent Mdrawn Mslopes Mfrom Mfactor Mthrown Mlength Mmodels Mopen Mat Mrows Mx) H → va_D A (wM k aM Mestimate Munit Msort Mwidth Mmany Mreading Mvariance Mcovariance Mline Mformulas Mroot Mkind Mone Mother Msigns Mplace MleftOf MrightOf Mtype Msum Msign MsignAt Mproduct Mvalue Mslope Mexponent Mdrawn Mslopes Mfrom Mfactor Mthrown Mlength Mmodels Mopen Mat Mrows Mx) → va_S A s.heap H locs → lv_has ls 3 [(0, .ref (aM 0)), (1, .int v1), (2, .int v2)] → W p l e rmX7_atom s m args below meth c H locs 0 0 Q (F0 m 49 ls []) := by
    intro E93 hE93 n
    induction n with
    | zero => intro v1 v2 Mformulas Mkind Mone Mother Mat h; simp [LX7_atom_49] at h
    | succ n ih =>
    intro v1 v2 Mformulas Mkind Mone Mother Mat h H locs ls hP hD hS hl
    rw [LX7_atom_49] at h
    refine lv_iload_n hx hb dX7_atom_49 rfl (lv_at hl 2 rfl) ?_
    refine lv_iconst (v := 4) hx hb dX7_atom_50 (by decide) ?_
    refine lv_icmp_ge (tgt := 93) hx hb dX7_atom_51 (by decide) (fun c4 => ?_) (fun c4 => ?_)
    · replace h := sf_t c4 h
      exact hE93 _ _ _ _ _ _ h _ _ _ hP hD hS (lv_sub hl [0, 1] rfl)
    · replace h := sf_f c4 h
      refine lv_aload_n hx hb dX7_atom_54 rfl (lv_at hl 0 rfl) ?_
      obtain ⟨r5, hc5, h⟩ := bnd1_inv h
      have hFc := va_free (wc := (wM k aM Mestimate Munit Msort Mwidth Mmany Mreading Mvariance Mcovariance Mline Mformulas Mroot Mkind Mone Mother Msigns Mplace MleftOf MrightOf Mtype Msum Msign MsignAt Mproduct Mvalue Mslope Mexponent Mdrawn Mslopes Mfrom Mfactor Mthrown Mlength Mmodels Mopen Mat Mrows Mx)) hD hS hA [0, 1, 2, 3, 4, 5, 6, 7, 8, 9, 10, 11, 12, 13, 14, 15, 16, 17, 18, 19, 20, 21, 22, 23, 24, 25, 26, 27, 28, 29, 30] rfl
      refine xc_i (va_runV (As := []) (rest := []) ⟨hx, hb, hml, hown, hts⟩ (met_X7_sign l D k  aM H.size Mestimate Munit Msort Mwidth Mmany Mreading Mvariance Mcovariance Mline Mformulas Mroot Mkind Mone Mother Msigns Mplace MleftOf MrightOf Mtype Msum Msign MsignAt Mproduct Mvalue Mslope Mexponent Mdrawn Mslopes Mfrom Mfactor Mthrown Mlength Mmodels Mopen Mat Mrows Mx r5 hc5) (cwV 0 hts gX7_atom_X7_sign rfl rfl rfl (by decide +kernel) ⟨Nat.le_of_ble_eq_true rfl, Nat.le_of_ble_eq_true rfl⟩) ⟨pw_blind, va_recv hK hP (ci := 7) (q0 := 0) rfl rfl, pw_start hP hK hD⟩ rfl rfl hl.1 rfl (lv_room (Nat.le_of_ble_eq_true rfl)) dX7_atom_55 ⟨Nat.zero_le _, Nat.zero_le _⟩) hS hFc (fun H1 locs hP1 hD1 hk1 hS => ?_)
      obtain ⟨hP, hD⟩ := vj_all hFc hP1 hD1
      clear hP1 hD1 hk1 hFc
      generalize H1 = H at hP hS ⊢
      obtain ⟨r6, hc6, h⟩ := bnd1_inv h
      have hPc := hP.sub (ws' := ([] : va_W)) [] rfl
      have hDc := hD.sub (ws' := ([] : va_W)) [] rfl rfl
      have hFc := va_free (wc := ([] : va_W)) hD hS hA [] rfl
      refine xc_i (va_runS (As := [.int r5]) (rest := []) ⟨hx, hb, hml, hown, hts⟩ (met_X7_isDigit l D k  H.size r5 r6 hc6) (va_cwS 1 hts gX7_atom_X7_isDigit rfl rfl rfl (by decide +kernel) ⟨Nat.le_of_ble_eq_true rfl, Nat.le_of_ble_eq_true rfl⟩) ⟨pw_blind, pw_start hPc hK hDc⟩ rfl rfl hl.1 rfl (lv_room (Nat.le_of_ble_eq_true rfl)) dX7_atom_58 ⟨Nat.zero_le _, Nat.zero_le _⟩) hS hFc (fun H1 locs hP1 hD1 hk1 hS => ?_)
      obtain ⟨hP, hD⟩ := vj (ws' := (wM k aM Mestimate Munit Msort Mwidth Mmany Mreading Mvariance Mcovariance Mline Mformulas Mroot Mkind Mone Mother Msigns Mplace MleftOf MrightOf Mtype Msum Msign MsignAt Mproduct Mvalue Mslope Mexponent Mdrawn Mslopes Mfrom Mfactor Mthrown Mlength Mmodels Mopen Mat Mrows Mx)) (w1 := ([] : va_W)) hP hD [] [0, 1, 2, 3, 4, 5, 6, 7, 8, 9, 10, 11, 12, 13, 14, 15, 16, 17, 18, 19, 20, 21, 22, 23, 24, 25, 26, 27, 28, 29, 30] [0, 1, 2, 3, 4, 5, 6, 7, 8, 9, 10, 11, 12, 13, 14, 15, 16, 17, 18, 19, 20, 21, 22, 23, 24, 25, 26, 27, 28, 29, 30] rfl rfl rfl rfl rfl hk1 hFc hP1 hD1
      clear hP1 hD1 hk1 hFc
      generalize H1 = H at hP hS ⊢
      refine lv_if_eq (tgt := 93) hx hb dX7_atom_61 (by decide) (fun c7 => ?_) (fun c7 => ?_)
      · replace h := sf_t c7 h
        exact hE93 _ _ _ _ _ _ h _ _ _ hP hD hS (lv_sub hl [0, 1] rfl)
      · replace h := sf_f c7 h
        refine lv_bipush (v := 10) hx hb dX7_atom_64 (by decide) ?_
        refine lv_iload_n hx hb dX7_atom_66 rfl (lv_at hl 1 rfl) ?_
        refine lv_imul hx hb dX7_atom_67 ?_
        refine lv_aload_n hx hb dX7_atom_68 rfl (lv_at hl 0 rfl) ?_
        obtain ⟨r8, hc8, h⟩ := bnd1_inv h
        have hFc := va_free (wc := (wM k aM Mestimate Munit Msort Mwidth Mmany Mreading Mvariance Mcovariance Mline Mformulas Mroot Mkind Mone Mother Msigns Mplace MleftOf MrightOf Mtype Msum Msign MsignAt Mproduct Mvalue Mslope Mexponent Mdrawn Mslopes Mfrom Mfactor Mthrown Mlength Mmodels Mopen Mat Mrows Mx)) hD hS hA [0, 1, 2, 3, 4, 5, 6, 7, 8, 9, 10, 11, 12, 13, 14, 15, 16, 17, 18, 19, 20, 21, 22, 23, 24, 25, 26, 27, 28, 29, 30] rfl
        refine xc_i (va_runV (As := []) (rest := [.int (10 * v1)]) ⟨hx, hb, hml, hown, hts⟩ (met_X7_sign l D k  aM H.size Mestimate Munit Msort Mwidth Mmany Mreading Mvariance Mcovariance Mline Mformulas Mroot Mkind Mone Mother Msigns Mplace MleftOf MrightOf Mtype Msum Msign MsignAt Mproduct Mvalue Mslope Mexponent Mdrawn Mslopes Mfrom Mfactor Mthrown Mlength Mmodels Mopen Mat Mrows Mx r8 hc8) (cwV 0 hts gX7_atom_X7_sign rfl rfl rfl (by decide +kernel) ⟨Nat.le_of_ble_eq_true rfl, Nat.le_of_ble_eq_true rfl⟩) ⟨pw_blind, va_recv hK hP (ci := 7) (q0 := 0) rfl rfl, pw_start hP hK hD⟩ rfl rfl hl.1 rfl (lv_room (Nat.le_of_ble_eq_true rfl)) dX7_atom_69 ⟨Nat.zero_le _, Nat.zero_le _⟩) hS hFc (fun H1 locs hP1 hD1 hk1 hS => ?_)
        obtain ⟨hP, hD⟩ := vj_all hFc hP1 hD1
        clear hP1 hD1 hk1 hFc
        generalize H1 = H at hP hS ⊢
        refine lv_iadd hx hb dX7_atom_72 ?_
        refine lv_bipush (v := 48) hx hb dX7_atom_73 (by decide) ?_
        refine lv_isub hx hb dX7_atom_75 ?_
        refine lv_istore_n (lv' := [(1, .int (((10 * v1) + r8) - 48)), (0, .ref (aM 0)), (2, .int v2)]) hx hb dX7_atom_76 rfl hl (by decide) rfl (fun ls hl => ?_)
        refine lv_aload_n hx hb dX7_atom_77 rfl (lv_at hl 1 rfl) ?_
        refine lv_dup hx hb dX7_atom_78 rfl ?_
        refine va_get (D := D) (ci := 7) (v := .int Mat) (C := RX7) (T := TX7) (N := 37) hx hb hts iX7 hown hK hP 0 rfl rfl 27 (by decide) f139 (fun _ h9 => h9) rfl dX7_atom_79 ?_
        refine lv_iconst (v := 1) hx hb dX7_atom_82 (by decide) ?_
        refine lv_iadd hx hb dX7_atom_83 ?_
        refine va_put (D := D) (ci := 7) (v := .int (Mat + 1)) (ty := .int) (C := RX7) (T := TX7) (N := 37) hx hb hts iX7 tyX7 tyX7_ok nmX7 hown hK hP hD hS 0 rfl rfl 27 (by decide) f139 (fun _ h9 => h9) rfl (by decide +kernel) rfl rfl (Nat.le_of_ble_eq_true rfl) dX7_atom_84 (fun H locs hP hD hS => ?_)
        replace hP : va_P D vwCl (wM k aM Mestimate Munit Msort Mwidth Mmany Mreading Mvariance Mcovariance Mline Mformulas Mroot Mkind Mone Mother Msigns Mplace MleftOf MrightOf Mtype Msum Msign MsignAt Mproduct Mvalue Mslope Mexponent Mdrawn Mslopes Mfrom Mfactor Mthrown Mlength Mmodels Mopen (Mat + 1) Mrows Mx) H := hP
        replace hD : va_D A (wM k aM Mestimate Munit Msort Mwidth Mmany Mreading Mvariance Mcovariance Mline Mformulas Mroot Mkind Mone Mother Msigns Mplace MleftOf MrightOf Mtype Msum Msign MsignAt Mproduct Mvalue Mslope Mexponent Mdrawn Mslopes Mfrom Mfactor Mthrown Mlength Mmodels Mopen (Mat + 1) Mrows Mx) := hD
        refine lv_iinc (v := v2 + 1) (lv' := [(2, .int (v2 + 1)), (1, .int (((10 * v1) + r8) - 48)), (0, .ref (aM 0))]) hx hb dX7_atom_87 hl (k := 2) rfl rfl (by decide) rfl (fun ls hl => ?_)
        refine lv_goto (tgt := 49) hx hb dX7_atom_90 (by decide) ?_
        exact ih _ _ _ _ _ _ _ h _ _ _ hP hD hS (lv_sub hl [2, 1, 0] rfl)
  have BH_93 : ∀ (v1 : Int32) (Mformulas : Nat → Int32) (Mkind : Nat → Int32) (Mone : Nat → Int32) (Mother : Nat → Int32) (Mat : Int32), BX7_atom_93 Mline Mlength v1 Mformulas Mkind Mone Mother Mat = some (r, RMformulas, RMkind, RMone, RMother, RMat) → ∀ (H : Heap) (locs : List Loc) (ls : Array Slot), va_P D vwCl (wM k aM Mestimate Munit Msort Mwidth Mmany Mreading Mvariance Mcovariance Mline Mformulas Mroot Mkind Mone Mother Msigns Mplace MleftOf MrightOf Mtype Msum Msign MsignAt Mproduct Mvalue Mslope Mexponent Mdrawn Mslopes Mfrom Mfactor Mthrown Mlength Mmodels Mopen Mat Mrows Mx) H → va_D A (wM k aM Mestimate Munit Msort Mwidth Mmany Mreading Mvariance Mcovariance Mline Mformulas Mroot Mkind Mone Mother Msigns Mplace MleftOf MrightOf Mtype Msum Msign MsignAt Mproduct Mvalue Mslope Mexponent Mdrawn Mslopes Mfrom Mfactor Mthrown Mlength Mmodels Mopen Mat Mrows Mx) → va_S A s.heap H locs → lv_has ls 3 [(0, .ref (aM 0)), (1, .int v1)] → W p l e rmX7_atom s m args below meth c H locs 0 0 Q (F0 m 93 ls []) := by
    intro  v1 Mformulas Mkind Mone Mother Mat h H locs ls hP hD hS hl
    unfold BX7_atom_93 at h
    refine lv_aload_n hx hb dX7_atom_93 rfl (lv_at hl 0 rfl) ?_
    refine lv_iconst (v := 0) hx hb dX7_atom_94 (by decide) ?_
    refine lv_iload_n hx hb dX7_atom_95 rfl (lv_at hl 1 rfl) ?_
    refine lv_iconst (v := 0) hx hb dX7_atom_96 (by decide) ?_
    obtain ⟨r9, formulas_9, kind_9, one_9, other_9, hc9, h⟩ := bnd5_inv h
    have hFc := va_free (wc := (wM k aM Mestimate Munit Msort Mwidth Mmany Mreading Mvariance Mcovariance Mline Mformulas Mroot Mkind Mone Mother Msigns Mplace MleftOf MrightOf Mtype Msum Msign MsignAt Mproduct Mvalue Mslope Mexponent Mdrawn Mslopes Mfrom Mfactor Mthrown Mlength Mmodels Mopen Mat Mrows Mx)) hD hS hA [0, 1, 2, 3, 4, 5, 6, 7, 8, 9, 10, 11, 12, 13, 14, 15, 16, 17, 18, 19, 20, 21, 22, 23, 24, 25, 26, 27, 28, 29, 30] rfl
    refine xc_i (va_runV (As := [.int 0, .int v1, .int 0]) (rest := []) ⟨hx, hb, hml, hown, hts⟩ (met_X7_formula l D k  aM H.size Mestimate Munit Msort Mwidth Mmany Mreading Mvariance Mcovariance Mline Mformulas Mroot Mkind Mone Mother Msigns Mplace MleftOf MrightOf Mtype Msum Msign MsignAt Mproduct Mvalue Mslope Mexponent Mdrawn Mslopes Mfrom Mfactor Mthrown Mlength Mmodels Mopen Mat Mrows Mx 0 v1 0 r9 formulas_9 kind_9 one_9 other_9 hc9) (cwV 3 hts gX7_atom_X7_formula rfl rfl rfl (by decide +kernel) ⟨Nat.le_of_ble_eq_true rfl, Nat.le_of_ble_eq_true rfl⟩) ⟨pw_blind, va_recv hK hP (ci := 7) (q0 := 0) rfl rfl, pw_start hP hK hD⟩ rfl rfl hl.1 rfl (lv_room (Nat.le_of_ble_eq_true rfl)) dX7_atom_97 ⟨Nat.zero_le _, Nat.zero_le _⟩) hS hFc (fun H1 locs hP1 hD1 hk1 hS => ?_)
    obtain ⟨hP, hD⟩ := vj_all hFc hP1 hD1
    clear hP1 hD1 hk1 hFc
    generalize H1 = H at hP hS ⊢
    have hP9 := hP
    have hD9 := hD
    have hS9 := hS
    subst hQ
    cases h
    exact W.iret hx hb hr (fun t ht hW => ⟨⟨_, (), rfl, rfl, by rw [ht]; exact hP9, va_K.moved hW.alike hK, hD9⟩, hS9.F ht⟩) hS9.2.2 dX7_atom_100
  suffices main : ∀ (H : Heap) (locs : List Loc) (ls : Array Slot), va_P D vwCl (wM k aM Mestimate Munit Msort Mwidth Mmany Mreading Mvariance Mcovariance Mline Mformulas Mroot Mkind Mone Mother Msigns Mplace MleftOf MrightOf Mtype Msum Msign MsignAt Mproduct Mvalue Mslope Mexponent Mdrawn Mslopes Mfrom Mfactor Mthrown Mlength Mmodels Mopen Mat Mrows Mx) H → va_D A (wM k aM Mestimate Munit Msort Mwidth Mmany Mreading Mvariance Mcovariance Mline Mformulas Mroot Mkind Mone Mother Msigns Mplace MleftOf MrightOf Mtype Msum Msign MsignAt Mproduct Mvalue Mslope Mexponent Mdrawn Mslopes Mfrom Mfactor Mthrown Mlength Mmodels Mopen Mat Mrows Mx) → va_S A s.heap H locs → lv_has ls 3 [(0, .ref (aM 0))] → W p l e rmX7_atom s m args below meth c H locs 0 0 Q (F0 m 0 ls []) from main _ _ _ hP hD hS hl
  clear hP hD hS hl ls hAe
  intro H locs ls hP hD hS hl
  refine lv_aload_n hx hb dX7_atom_0 rfl (lv_at hl 0 rfl) ?_
  obtain ⟨r1, hc1, h⟩ := bnd1_inv h
  have hFc := va_free (wc := (wM k aM Mestimate Munit Msort Mwidth Mmany Mreading Mvariance Mcovariance Mline Mformulas Mroot Mkind Mone Mother Msigns Mplace MleftOf MrightOf Mtype Msum Msign MsignAt Mproduct Mvalue Mslope Mexponent Mdrawn Mslopes Mfrom Mfactor Mthrown Mlength Mmodels Mopen Mat Mrows Mx)) hD hS hA [0, 1, 2, 3, 4, 5, 6, 7, 8, 9, 10, 11, 12, 13, 14, 15, 16, 17, 18, 19, 20, 21, 22, 23, 24, 25, 26, 27, 28, 29, 30] rfl
  refine xc_i (va_runV (As := []) (rest := []) ⟨hx, hb, hml, hown, hts⟩ (met_X7_sign l D k  aM H.size Mestimate Munit Msort Mwidth Mmany Mreading Mvariance Mcovariance Mline Mformulas Mroot Mkind Mone Mother Msigns Mplace MleftOf MrightOf Mtype Msum Msign MsignAt Mproduct Mvalue Mslope Mexponent Mdrawn Mslopes Mfrom Mfactor Mthrown Mlength Mmodels Mopen Mat Mrows Mx r1 hc1) (cwV 0 hts gX7_atom_X7_sign rfl rfl rfl (by decide +kernel) ⟨Nat.le_of_ble_eq_true rfl, Nat.le_of_ble_eq_true rfl⟩) ⟨pw_blind, va_recv hK hP (ci := 7) (q0 := 0) rfl rfl, pw_start hP hK hD⟩ rfl rfl hl.1 rfl (lv_room (Nat.le_of_ble_eq_true rfl)) dX7_atom_1 ⟨Nat.zero_le _, Nat.zero_le _⟩) hS hFc (fun H1 locs hP1 hD1 hk1 hS => ?_)
  obtain ⟨hP, hD⟩ := vj_all hFc hP1 hD1
  clear hP1 hD1 hk1 hFc
  generalize H1 = H at hP hS ⊢
  refine lv_bipush (v := 97) hx hb dX7_atom_4 (by decide) ?_
  refine lv_bipush (v := 102) hx hb dX7_atom_6 (by decide) ?_
  obtain ⟨r2, hc2, h⟩ := bnd1_inv h
  have hPc := hP.sub (ws' := ([] : va_W)) [] rfl
  have hDc := hD.sub (ws' := ([] : va_W)) [] rfl rfl
  have hFc := va_free (wc := ([] : va_W)) hD hS hA [] rfl
  refine xc_i (va_runS (As := [.int r1, .int 97, .int 102]) (rest := []) ⟨hx, hb, hml, hown, hts⟩ (met_X7_isIn l D k  H.size r1 97 102 r2 hc2) (va_cwS 3 hts gX7_atom_X7_isIn rfl rfl rfl (by decide +kernel) ⟨Nat.le_of_ble_eq_true rfl, Nat.le_of_ble_eq_true rfl⟩) ⟨pw_blind, pw_start hPc hK hDc⟩ rfl rfl hl.1 rfl (lv_room (Nat.le_of_ble_eq_true rfl)) dX7_atom_8 ⟨Nat.zero_le _, Nat.zero_le _⟩) hS hFc (fun H1 locs hP1 hD1 hk1 hS => ?_)
  obtain ⟨hP, hD⟩ := vj (ws' := (wM k aM Mestimate Munit Msort Mwidth Mmany Mreading Mvariance Mcovariance Mline Mformulas Mroot Mkind Mone Mother Msigns Mplace MleftOf MrightOf Mtype Msum Msign MsignAt Mproduct Mvalue Mslope Mexponent Mdrawn Mslopes Mfrom Mfactor Mthrown Mlength Mmodels Mopen Mat Mrows Mx)) (w1 := ([] : va_W)) hP hD [] [0, 1, 2, 3, 4, 5, 6, 7, 8, 9, 10, 11, 12, 13, 14, 15, 16, 17, 18, 19, 20, 21, 22, 23, 24, 25, 26, 27, 28, 29, 30] [0, 1, 2, 3, 4, 5, 6, 7, 8, 9, 10, 11, 12, 13, 14, 15, 16, 17, 18, 19, 20, 21, 22, 23, 24, 25, 26, 27, 28, 29, 30] rfl rfl rfl rfl rfl hk1 hFc hP1 hD1
  clear hP1 hD1 hk1 hFc
  generalize H1 = H at hP hS ⊢
  refine lv_if_eq (tgt := 45) hx hb dX7_atom_11 (by decide) (fun c3 => ?_) (fun c3 => ?_)
  · replace h := sf_t c3 h
    refine lv_iconst (v := 0) hx hb dX7_atom_45 (by decide) ?_
    refine lv_istore_n (lv' := [(1, .int 0), (0, .ref (aM 0))]) hx hb dX7_atom_46 rfl hl (by decide) rfl (fun ls hl => ?_)
    refine lv_iconst (v := 0) hx hb dX7_atom_47 (by decide) ?_
    refine lv_istore_n (lv' := [(2, .int 0), (1, .int 0), (0, .ref (aM 0))]) hx hb dX7_atom_48 rfl hl (by decide) rfl (fun ls hl => ?_)
    refine LH_49 _ (fun v1 Mformulas Mkind Mone Mother Mat h H locs ls hP hD hS hl => ?_) _ _ _ _ _ _ _ _ h _ _ _ hP hD hS (lv_sub hl [2, 1, 0] rfl)
    · skip
      exact BH_93  _ _ _ _ _ _ h _ _ _ hP hD hS (lv_sub hl [0, 1] rfl)
  · replace h := sf_f c3 h
    refine lv_aload_n hx hb dX7_atom_14 rfl (lv_at hl 0 rfl) ?_
    refine lv_dup hx hb dX7_atom_15 rfl ?_
    refine va_get (D := D) (ci := 7) (v := .int Mat) (C := RX7) (T := TX7) (N := 37) hx hb hts iX7 hown hK hP 0 rfl rfl 27 (by decide) f139 (fun _ h9 => h9) rfl dX7_atom_16 ?_
    refine lv_iconst (v := 1) hx hb dX7_atom_19 (by decide) ?_
    refine lv_iadd hx hb dX7_atom_20 ?_
    refine va_put (D := D) (ci := 7) (v := .int (Mat + 1)) (ty := .int) (C := RX7) (T := TX7) (N := 37) hx hb hts iX7 tyX7 tyX7_ok nmX7 hown hK hP hD hS 0 rfl rfl 27 (by decide) f139 (fun _ h9 => h9) rfl (by decide +kernel) rfl rfl (Nat.le_of_ble_eq_true rfl) dX7_atom_21 (fun H locs hP hD hS => ?_)
    replace hP : va_P D vwCl (wM k aM Mestimate Munit Msort Mwidth Mmany Mreading Mvariance Mcovariance Mline Mformulas Mroot Mkind Mone Mother Msigns Mplace MleftOf MrightOf Mtype Msum Msign MsignAt Mproduct Mvalue Mslope Mexponent Mdrawn Mslopes Mfrom Mfactor Mthrown Mlength Mmodels Mopen (Mat + 1) Mrows Mx) H := hP
    replace hD : va_D A (wM k aM Mestimate Munit Msort Mwidth Mmany Mreading Mvariance Mcovariance Mline Mformulas Mroot Mkind Mone Mother Msigns Mplace MleftOf MrightOf Mtype Msum Msign MsignAt Mproduct Mvalue Mslope Mexponent Mdrawn Mslopes Mfrom Mfactor Mthrown Mlength Mmodels Mopen (Mat + 1) Mrows Mx) := hD
    refine lv_aload_n hx hb dX7_atom_24 rfl (lv_at hl 0 rfl) ?_
    refine lv_iconst (v := 1) hx hb dX7_atom_25 (by decide) ?_
    refine lv_aload_n hx hb dX7_atom_26 rfl (lv_at hl 0 rfl) ?_
    refine va_get (D := D) (ci := 7) (v := .ref (aM 9)) (C := RX7) (T := TX7) (N := 37) hx hb hts iX7 hown hK hP 0 rfl rfl 9 (by decide) f34 (fun _ h9 => h9) rfl dX7_atom_27 ?_
    refine lv_aload_n hx hb dX7_atom_30 rfl (lv_at hl 0 rfl) ?_
    refine va_get (D := D) (ci := 7) (v := .int (Mat + 1)) (C := RX7) (T := TX7) (N := 37) hx hb hts iX7 hown hK hP 0 rfl rfl 27 (by decide) f139 (fun _ h9 => h9) rfl dX7_atom_31 ?_
    refine lv_iconst (v := 1) hx hb dX7_atom_34 (by decide) ?_
    refine lv_isub hx hb dX7_atom_35 ?_
    obtain ⟨hi10, h⟩ := gi_inv h
    refine va_iald hx hb hK hP 9 0 rfl rfl hi10 dX7_atom_36 ?_
    refine lv_bipush (v := 97) hx hb dX7_atom_37 (by decide) ?_
    refine lv_isub hx hb dX7_atom_39 ?_
    refine lv_iconst (v := 0) hx hb dX7_atom_40 (by decide) ?_
    obtain ⟨r11, formulas_11, kind_11, one_11, other_11, hc11, h⟩ := bnd5_inv h
    have hFc := va_free (wc := (wM k aM Mestimate Munit Msort Mwidth Mmany Mreading Mvariance Mcovariance Mline Mformulas Mroot Mkind Mone Mother Msigns Mplace MleftOf MrightOf Mtype Msum Msign MsignAt Mproduct Mvalue Mslope Mexponent Mdrawn Mslopes Mfrom Mfactor Mthrown Mlength Mmodels Mopen (Mat + 1) Mrows Mx)) hD hS hA [0, 1, 2, 3, 4, 5, 6, 7, 8, 9, 10, 11, 12, 13, 14, 15, 16, 17, 18, 19, 20, 21, 22, 23, 24, 25, 26, 27, 28, 29, 30] rfl
    refine xc_i (va_runV (As := [.int 1, .int ((Mline ((Mat + 1) - 1).toNatClampNeg) - 97), .int 0]) (rest := []) ⟨hx, hb, hml, hown, hts⟩ (met_X7_formula l D k  aM H.size Mestimate Munit Msort Mwidth Mmany Mreading Mvariance Mcovariance Mline Mformulas Mroot Mkind Mone Mother Msigns Mplace MleftOf MrightOf Mtype Msum Msign MsignAt Mproduct Mvalue Mslope Mexponent Mdrawn Mslopes Mfrom Mfactor Mthrown Mlength Mmodels Mopen (Mat + 1) Mrows Mx 1 ((Mline ((Mat + 1) - 1).toNatClampNeg) - 97) 0 r11 formulas_11 kind_11 one_11 other_11 hc11) (cwV 3 hts gX7_atom_X7_formula rfl rfl rfl (by decide +kernel) ⟨Nat.le_of_ble_eq_true rfl, Nat.le_of_ble_eq_true rfl⟩) ⟨pw_blind, va_recv hK hP (ci := 7) (q0 := 0) rfl rfl, pw_start hP hK hD⟩ rfl rfl hl.1 rfl (lv_room (Nat.le_of_ble_eq_true rfl)) dX7_atom_41 ⟨Nat.zero_le _, Nat.zero_le _⟩) hS hFc (fun H1 locs hP1 hD1 hk1 hS => ?_)
    obtain ⟨hP, hD⟩ := vj_all hFc hP1 hD1
    clear hP1 hD1 hk1 hFc
    generalize H1 = H at hP hS ⊢
    have hP9 := hP
    have hD9 := hD
    have hS9 := hS
    subst hQ
    cases h
    exact W.iret hx hb hr (fun t ht hW => ⟨⟨_, (), rfl, rfl, by rw [ht]; exact hP9, va_K.moved hW.alike hK, hD9⟩, hS9.F ht⟩) hS9.2.2 dX7_atom_44
def BX7_adds_152 (Msign : Nat → Int32) (MsignAt : Nat → Int32) (Mopen : Int32)  (Mformulas : Nat → Int32) (Mkind : Nat → Int32) (Mone : Nat → Int32) (Mother : Nat → Int32) (Msigns : Nat → Int32) (Mplace : Nat → Int32) (MleftOf : Nat → Int32) (MrightOf : Nat → Int32) (Msum : Nat → Int32) (Mproduct : Nat → Int32) : Option ((Nat → Int32) × (Nat → Int32) × (Nat → Int32) × (Nat → Int32) × (Nat → Int32) × (Nat → Int32) × (Nat → Int32) × (Nat → Int32) × (Nat → Int32) × (Nat → Int32)) := gi Mopen 9 (some (Mformulas, Mkind, Mone, Mother, Msigns, Mplace, MleftOf, MrightOf, Msum, upd Mproduct (Mopen.toNatClampNeg) ((-1))))
def BX7_adds_130 (Msign : Nat → Int32) (MsignAt : Nat → Int32) (Mopen : Int32)  (s1 : Int32) (s3 : Int32) (Mformulas : Nat → Int32) (Mkind : Nat → Int32) (Mone : Nat → Int32) (Mother : Nat → Int32) (Msigns : Nat → Int32) (Mplace : Nat → Int32) (MleftOf : Nat → Int32) (MrightOf : Nat → Int32) (Msum : Nat → Int32) (Mproduct : Nat → Int32) : Option ((Nat → Int32) × (Nat → Int32) × (Nat → Int32) × (Nat → Int32) × (Nat → Int32) × (Nat → Int32) × (Nat → Int32) × (Nat → Int32) × (Nat → Int32) × (Nat → Int32)) := gi Mopen 9 (gi Mopen 9 (bnd5 (fX7_formula s3 (Msum Mopen.toNatClampNeg) (Mproduct Mopen.toNatClampNeg) Mformulas Mkind Mone Mother) (fun r16 formulas_16 kind_16 one_16 other_16 => gi s1 9 (BX7_adds_152 Msign MsignAt Mopen formulas_16 kind_16 one_16 other_16 Msigns Mplace MleftOf MrightOf (upd Msum (s1.toNatClampNeg) r16) Mproduct))))
def fX7_adds (Mformulas : Nat → Int32) (Mkind : Nat → Int32) (Mone : Nat → Int32) (Mother : Nat → Int32) (Msigns : Nat → Int32) (Mplace : Nat → Int32) (MleftOf : Nat → Int32) (MrightOf : Nat → Int32) (Msum : Nat → Int32) (Msign : Nat → Int32) (MsignAt : Nat → Int32) (Mproduct : Nat → Int32) (Mopen : Int32) : Option ((Nat → Int32) × (Nat → Int32) × (Nat → Int32) × (Nat → Int32) × (Nat → Int32) × (Nat → Int32) × (Nat → Int32) × (Nat → Int32) × (Nat → Int32) × (Nat → Int32)) := gi Mopen 9 ((if (Msum Mopen.toNatClampNeg) = ((-1)) then gi Mopen 9 (gi Mopen 9 (BX7_adds_152 Msign MsignAt Mopen Mformulas Mkind Mone Mother Msigns Mplace MleftOf MrightOf (upd Msum (Mopen.toNatClampNeg) (Mproduct Mopen.toNatClampNeg)) Mproduct)) else gi 8 9 (gi Mopen 9 (gi (512 + (Msigns (8 : Int32).toNatClampNeg)) 576 (gi Mopen 9 (gi (512 + (Msigns (8 : Int32).toNatClampNeg)) 576 (gi Mopen 9 (gi (512 + (Msigns (8 : Int32).toNatClampNeg)) 576 (gi 8 9 (gi 8 9 (gi Mopen 9 ((if (Msign Mopen.toNatClampNeg) = 43 then BX7_adds_130 Msign MsignAt Mopen Mopen 2 Mformulas Mkind Mone Mother (upd Msigns ((8 : Int32).toNatClampNeg) ((Msigns (8 : Int32).toNatClampNeg) + 1)) (upd Mplace ((512 + (Msigns (8 : Int32).toNatClampNeg)).toNatClampNeg) (MsignAt Mopen.toNatClampNeg)) (upd MleftOf ((512 + (Msigns (8 : Int32).toNatClampNeg)).toNatClampNeg) (Msum Mopen.toNatClampNeg)) (upd MrightOf ((512 + (Msigns (8 : Int32).toNatClampNeg)).toNatClampNeg) (Mproduct Mopen.toNatClampNeg)) Msum Mproduct else BX7_adds_130 Msign MsignAt Mopen Mopen 3 Mformulas Mkind Mone Mother (upd Msigns ((8 : Int32).toNatClampNeg) ((Msigns (8 : Int32).toNatClampNeg) + 1)) (upd Mplace ((512 + (Msigns (8 : Int32).toNatClampNeg)).toNatClampNeg) (MsignAt Mopen.toNatClampNeg)) (upd MleftOf ((512 + (Msigns (8 : Int32).toNatClampNeg)).toNatClampNeg) (Msum Mopen.toNatClampNeg)) (upd MrightOf ((512 + (Msigns (8 : Int32).toNatClampNeg)).toNatClampNeg) (Mproduct Mopen.toNatClampNeg)) Msum Mproduct)))))))))))))
abbrev rmX7_adds : Room := { frames := 1, cells := 0, slots := 0, locals := 25 }
set_option maxHeartbeats 4000000 in
set_option maxRecDepth 100000 in
theorem met_X7_adds (l : Launch) (D : va_G) (k : Nat → ClassId)  (aM : Nat → Nat) (sz : Nat) (Mestimate : Nat → Int32) (Munit : Nat → Int32) (Msort : Nat → Int32) (Mwidth : Nat → Int32) (Mmany : Nat → Int32) (Mreading : Nat → Int32) (Mvariance : Nat → Int32) (Mcovariance : Nat → Int32) (Mline : Nat → Int32) (Mformulas : Nat → Int32) (Mroot : Nat → Int32) (Mkind : Nat → Int32) (Mone : Nat → Int32) (Mother : Nat → Int32) (Msigns : Nat → Int32) (Mplace : Nat → Int32) (MleftOf : Nat → Int32) (MrightOf : Nat → Int32) (Mtype : Nat → Int32) (Msum : Nat → Int32) (Msign : Nat → Int32) (MsignAt : Nat → Int32) (Mproduct : Nat → Int32) (Mvalue : Nat → Int64) (Mslope : Nat → Int64) (Mexponent : Nat → Int32) (Mdrawn : Nat → Int32) (Mslopes : Nat → Int64) (Mfrom : Nat → Int32) (Mfactor : Nat → Int32) (Mthrown : Int32) (Mlength : Int32) (Mmodels : Int32) (Mopen : Int32) (Mat : Int32) (Mrows : Int32) (Mx : Int32)  (RMformulas : Nat → Int32) (RMkind : Nat → Int32) (RMone : Nat → Int32) (RMother : Nat → Int32) (RMsigns : Nat → Int32) (RMplace : Nat → Int32) (RMleftOf : Nat → Int32) (RMrightOf : Nat → Int32) (RMsum : Nat → Int32) (RMproduct : Nat → Int32) (h : fX7_adds Mformulas Mkind Mone Mother Msigns Mplace MleftOf MrightOf Msum Msign MsignAt Mproduct Mopen = some (RMformulas, RMkind, RMone, RMother, RMsigns, RMplace, RMleftOf, RMrightOf, RMsum, RMproduct)) : Met l yX7_adds wsX7_adds rmX7_adds (va_Pc [.ref (aM 0)] (PreW D k (wM k aM Mestimate Munit Msort Mwidth Mmany Mreading Mvariance Mcovariance Mline Mformulas Mroot Mkind Mone Mother Msigns Mplace MleftOf MrightOf Mtype Msum Msign MsignAt Mproduct Mvalue Mslope Mexponent Mdrawn Mslopes Mfrom Mfactor Mthrown Mlength Mmodels Mopen Mat Mrows Mx) sz)) (va_Qv (fun _ : Unit => True) (fun _ t => PostW D k (va_A (wM k aM Mestimate Munit Msort Mwidth Mmany Mreading Mvariance Mcovariance Mline Mformulas Mroot Mkind Mone Mother Msigns Mplace MleftOf MrightOf Mtype Msum Msign MsignAt Mproduct Mvalue Mslope Mexponent Mdrawn Mslopes Mfrom Mfactor Mthrown Mlength Mmodels Mopen Mat Mrows Mx) sz) (wM k aM Mestimate Munit Msort Mwidth Mmany Mreading Mvariance Mcovariance Mline RMformulas Mroot RMkind RMone RMother RMsigns RMplace RMleftOf RMrightOf Mtype RMsum Msign MsignAt RMproduct Mvalue Mslope Mexponent Mdrawn Mslopes Mfrom Mfactor Mthrown Mlength Mmodels Mopen Mat Mrows Mx) t) (va_A (wM k aM Mestimate Munit Msort Mwidth Mmany Mreading Mvariance Mcovariance Mline Mformulas Mroot Mkind Mone Mother Msigns Mplace MleftOf MrightOf Mtype Msum Msign MsignAt Mproduct Mvalue Mslope Mexponent Mdrawn Mslopes Mfrom Mfactor Mthrown Mlength Mmodels Mopen Mat Mrows Mx) sz)) 0 0 (va_A (wM k aM Mestimate Munit Msort Mwidth Mmany Mreading Mvariance Mcovariance Mline Mformulas Mroot Mkind Mone Mother Msigns Mplace MleftOf MrightOf Mtype Msum Msign MsignAt Mproduct Mvalue Mslope Mexponent Mdrawn Mslopes Mfrom Mfactor Mthrown Mlength Mmodels Mopen Mat Mrows Mx) sz) := by
  refine Met.ofW (cc := cX7_adds) (maxL := 2) (ret := none) (by decide) rfl ?_
  intro p e s m args below meth c s₁ B hml hv
  obtain ⟨hav, hsz, hP, hK, hD0⟩ := hv
  have hx := B.exec
  have hb := B.bytes
  have hr := B.returns
  have hts := atoms_spec (ws := wsX7_adds) B.pre
  have hown : s.vm.findClass RX7 = some m.cls := findClass_of_methodNamed B.named
  have hlocks := B.notSynchronized
  subst hsz
  have hD := hD0.self (sz := s.heap.size)
  clear hD0
  generalize hAe : va_A (wM k aM Mestimate Munit Msort Mwidth Mmany Mreading Mvariance Mcovariance Mline Mformulas Mroot Mkind Mone Mother Msigns Mplace MleftOf MrightOf Mtype Msum Msign MsignAt Mproduct Mvalue Mslope Mexponent Mdrawn Mslopes Mfrom Mfactor Mthrown Mlength Mmodels Mopen Mat Mrows Mx) s.heap.size = A at hD ⊢
  have hA : ∀ q : Nat, s.heap.size ≤ q → A q := fun q h => by rw [← hAe]; exact Or.inr h
  have hS : va_S A s.heap s.heap [] := va_S.rf
  have hl := lv_entry ([.ref (aM 0)]) (n := 2) (Nat.le_of_ble_eq_true rfl)
  rw [show entryFrame m args 2 = entryFrame m ([.ref (aM 0)] : List Value).toArray 2 from by rw [hav], lg_entry_eq]
  generalize (lg_sl ([.ref (aM 0)]) ++ List.replicate (2 - (lg_sl ([.ref (aM 0)])).length) Slot.unset).toArray = ls at hl ⊢
  replace hl : lv_has ls 2 [(0, .ref (aM 0))] := hl
  have f52 := hts (.fieldLink RX7 52 "UncertainBookModel" "signs" "[I") (by decide +kernel)
  have f55 := hts (.fieldLink RX7 55 "UncertainBookModel" "place" "[I") (by decide +kernel)
  have f58 := hts (.fieldLink RX7 58 "UncertainBookModel" "leftOf" "[I") (by decide +kernel)
  have f61 := hts (.fieldLink RX7 61 "UncertainBookModel" "rightOf" "[I") (by decide +kernel)
  have f67 := hts (.fieldLink RX7 67 "UncertainBookModel" "sum" "[I") (by decide +kernel)
  have f70 := hts (.fieldLink RX7 70 "UncertainBookModel" "sign" "[I") (by decide +kernel)
  have f73 := hts (.fieldLink RX7 73 "UncertainBookModel" "signAt" "[I") (by decide +kernel)
  have f76 := hts (.fieldLink RX7 76 "UncertainBookModel" "product" "[I") (by decide +kernel)
  have f142 := hts (.fieldLink RX7 142 "UncertainBookModel" "open" "I") (by decide +kernel)
  have iX7 : ∀ w ∈ u_ws RX7 TX7 37, w ∈ wsX7_adds := by decide +kernel
  refine w_q (fun Q hQ => ?_)
  unfold fX7_adds at h
  show W p l e rmX7_adds s m args below meth c s.heap [] 0 0 Q (F0 m 0 ls [])
  have BH_152 : ∀ (Mformulas : Nat → Int32) (Mkind : Nat → Int32) (Mone : Nat → Int32) (Mother : Nat → Int32) (Msigns : Nat → Int32) (Mplace : Nat → Int32) (MleftOf : Nat → Int32) (MrightOf : Nat → Int32) (Msum : Nat → Int32) (Mproduct : Nat → Int32), BX7_adds_152 Msign MsignAt Mopen Mformulas Mkind Mone Mother Msigns Mplace MleftOf MrightOf Msum Mproduct = some (RMformulas, RMkind, RMone, RMother, RMsigns, RMplace, RMleftOf, RMrightOf, RMsum, RMproduct) → ∀ (H : Heap) (locs : List Loc) (ls : Array Slot), va_P D vwCl (wM k aM Mestimate Munit Msort Mwidth Mmany Mreading Mvariance Mcovariance Mline Mformulas Mroot Mkind Mone Mother Msigns Mplace MleftOf MrightOf Mtype Msum Msign MsignAt Mproduct Mvalue Mslope Mexponent Mdrawn Mslopes Mfrom Mfactor Mthrown Mlength Mmodels Mopen Mat Mrows Mx) H → va_D A (wM k aM Mestimate Munit Msort Mwidth Mmany Mreading Mvariance Mcovariance Mline Mformulas Mroot Mkind Mone Mother Msigns Mplace MleftOf MrightOf Mtype Msum Msign MsignAt Mproduct Mvalue Mslope Mexponent Mdrawn Mslopes Mfrom Mfactor Mthrown Mlength Mmodels Mopen Mat Mrows Mx) → va_S A s.heap H locs → lv_has ls 2 [(0, .ref (aM 0))] → W p l e rmX7_adds s m args below meth c H locs 0 0 Q (F0 m 152 ls []) := by
    intro  Mformulas Mkind Mone Mother Msigns Mplace MleftOf MrightOf Msum Mproduct h H locs ls hP hD hS hl
    unfold BX7_adds_152 at h
    refine lv_aload_n hx hb dX7_adds_152 rfl (lv_at hl 0 rfl) ?_
    refine va_get (D := D) (ci := 7) (v := .ref (aM 23)) (C := RX7) (T := TX7) (N := 37) hx hb hts iX7 hown hK hP 0 rfl rfl 26 (by decide) f76 (fun _ h9 => h9) rfl dX7_adds_153 ?_
    refine lv_aload_n hx hb dX7_adds_156 rfl (lv_at hl 0 rfl) ?_
    refine va_get (D := D) (ci := 7) (v := .int Mopen) (C := RX7) (T := TX7) (N := 37) hx hb hts iX7 hown hK hP 0 rfl rfl 21 (by decide) f142 (fun _ h9 => h9) rfl dX7_adds_157 ?_
    refine lv_iconst (v := -1) hx hb dX7_adds_160 (by decide) ?_
    obtain ⟨hi18, h⟩ := gi_inv h
    refine va_iast hx hb hK hP hD hS 23 0 rfl rfl hi18 dX7_adds_161 (fun H locs hP hD hS => ?_)
    replace hP : va_P D vwCl (wM k aM Mestimate Munit Msort Mwidth Mmany Mreading Mvariance Mcovariance Mline Mformulas Mroot Mkind Mone Mother Msigns Mplace MleftOf MrightOf Mtype Msum Msign MsignAt (upd Mproduct (Mopen.toNatClampNeg) ((-1))) Mvalue Mslope Mexponent Mdrawn Mslopes Mfrom Mfactor Mthrown Mlength Mmodels Mopen Mat Mrows Mx) H := hP
    replace hD : va_D A (wM k aM Mestimate Munit Msort Mwidth Mmany Mreading Mvariance Mcovariance Mline Mformulas Mroot Mkind Mone Mother Msigns Mplace MleftOf MrightOf Mtype Msum Msign MsignAt (upd Mproduct (Mopen.toNatClampNeg) ((-1))) Mvalue Mslope Mexponent Mdrawn Mslopes Mfrom Mfactor Mthrown Mlength Mmodels Mopen Mat Mrows Mx) := hD
    have hP9 := hP
    have hD9 := hD
    have hS9 := hS
    subst hQ
    cases h
    exact W.vret hx hb hr (fun t ht hW => ⟨⟨(), rfl, trivial, by rw [ht]; exact hP9, va_K.moved hW.alike hK, hD9⟩, hS9.F ht⟩) hS9.2.2 dX7_adds_162
  have BH_130 : ∀ (s1 : Int32) (s3 : Int32) (Mformulas : Nat → Int32) (Mkind : Nat → Int32) (Mone : Nat → Int32) (Mother : Nat → Int32) (Msigns : Nat → Int32) (Mplace : Nat → Int32) (MleftOf : Nat → Int32) (MrightOf : Nat → Int32) (Msum : Nat → Int32) (Mproduct : Nat → Int32), BX7_adds_130 Msign MsignAt Mopen s1 s3 Mformulas Mkind Mone Mother Msigns Mplace MleftOf MrightOf Msum Mproduct = some (RMformulas, RMkind, RMone, RMother, RMsigns, RMplace, RMleftOf, RMrightOf, RMsum, RMproduct) → ∀ (H : Heap) (locs : List Loc) (ls : Array Slot), va_P D vwCl (wM k aM Mestimate Munit Msort Mwidth Mmany Mreading Mvariance Mcovariance Mline Mformulas Mroot Mkind Mone Mother Msigns Mplace MleftOf MrightOf Mtype Msum Msign MsignAt Mproduct Mvalue Mslope Mexponent Mdrawn Mslopes Mfrom Mfactor Mthrown Mlength Mmodels Mopen Mat Mrows Mx) H → va_D A (wM k aM Mestimate Munit Msort Mwidth Mmany Mreading Mvariance Mcovariance Mline Mformulas Mroot Mkind Mone Mother Msigns Mplace MleftOf MrightOf Mtype Msum Msign MsignAt Mproduct Mvalue Mslope Mexponent Mdrawn Mslopes Mfrom Mfactor Mthrown Mlength Mmodels Mopen Mat Mrows Mx) → va_S A s.heap H locs → lv_has ls 2 [(0, .ref (aM 0))] → W p l e rmX7_adds s m args below meth c H locs 0 0 Q (F0 m 130 ls [.int s3, .ref (aM 0), .int s1, .ref (aM 20)]) := by
    intro  s1 s3 Mformulas Mkind Mone Mother Msigns Mplace MleftOf MrightOf Msum Mproduct h H locs ls hP hD hS hl
    unfold BX7_adds_130 at h
    refine lv_aload_n hx hb dX7_adds_130 rfl (lv_at hl 0 rfl) ?_
    refine va_get (D := D) (ci := 7) (v := .ref (aM 20)) (C := RX7) (T := TX7) (N := 37) hx hb hts iX7 hown hK hP 0 rfl rfl 23 (by decide) f67 (fun _ h9 => h9) rfl dX7_adds_131 ?_
    refine lv_aload_n hx hb dX7_adds_134 rfl (lv_at hl 0 rfl) ?_
    refine va_get (D := D) (ci := 7) (v := .int Mopen) (C := RX7) (T := TX7) (N := 37) hx hb hts iX7 hown hK hP 0 rfl rfl 21 (by decide) f142 (fun _ h9 => h9) rfl dX7_adds_135 ?_
    obtain ⟨hi14, h⟩ := gi_inv h
    refine va_iald hx hb hK hP 20 0 rfl rfl hi14 dX7_adds_138 ?_
    refine lv_aload_n hx hb dX7_adds_139 rfl (lv_at hl 0 rfl) ?_
    refine va_get (D := D) (ci := 7) (v := .ref (aM 23)) (C := RX7) (T := TX7) (N := 37) hx hb hts iX7 hown hK hP 0 rfl rfl 26 (by decide) f76 (fun _ h9 => h9) rfl dX7_adds_140 ?_
    refine lv_aload_n hx hb dX7_adds_143 rfl (lv_at hl 0 rfl) ?_
    refine va_get (D := D) (ci := 7) (v := .int Mopen) (C := RX7) (T := TX7) (N := 37) hx hb hts iX7 hown hK hP 0 rfl rfl 21 (by decide) f142 (fun _ h9 => h9) rfl dX7_adds_144 ?_
    obtain ⟨hi15, h⟩ := gi_inv h
    refine va_iald hx hb hK hP 23 0 rfl rfl hi15 dX7_adds_147 ?_
    obtain ⟨r16, formulas_16, kind_16, one_16, other_16, hc16, h⟩ := bnd5_inv h
    have hFc := va_free (wc := (wM k aM Mestimate Munit Msort Mwidth Mmany Mreading Mvariance Mcovariance Mline Mformulas Mroot Mkind Mone Mother Msigns Mplace MleftOf MrightOf Mtype Msum Msign MsignAt Mproduct Mvalue Mslope Mexponent Mdrawn Mslopes Mfrom Mfactor Mthrown Mlength Mmodels Mopen Mat Mrows Mx)) hD hS hA [0, 1, 2, 3, 4, 5, 6, 7, 8, 9, 10, 11, 12, 13, 14, 15, 16, 17, 18, 19, 20, 21, 22, 23, 24, 25, 26, 27, 28, 29, 30] rfl
    refine xc_i (va_runV (As := [.int s3, .int (Msum Mopen.toNatClampNeg), .int (Mproduct Mopen.toNatClampNeg)]) (rest := [.int s1, .ref (aM 20)]) ⟨hx, hb, hml, hown, hts⟩ (met_X7_formula l D k  aM H.size Mestimate Munit Msort Mwidth Mmany Mreading Mvariance Mcovariance Mline Mformulas Mroot Mkind Mone Mother Msigns Mplace MleftOf MrightOf Mtype Msum Msign MsignAt Mproduct Mvalue Mslope Mexponent Mdrawn Mslopes Mfrom Mfactor Mthrown Mlength Mmodels Mopen Mat Mrows Mx s3 (Msum Mopen.toNatClampNeg) (Mproduct Mopen.toNatClampNeg) r16 formulas_16 kind_16 one_16 other_16 hc16) (cwV 3 hts gX7_adds_X7_formula rfl rfl rfl (by decide +kernel) ⟨Nat.le_of_ble_eq_true rfl, Nat.le_of_ble_eq_true rfl⟩) ⟨pw_blind, va_recv hK hP (ci := 7) (q0 := 0) rfl rfl, pw_start hP hK hD⟩ rfl rfl hl.1 rfl (lv_room (Nat.le_of_ble_eq_true rfl)) dX7_adds_148 ⟨Nat.zero_le _, Nat.zero_le _⟩) hS hFc (fun H1 locs hP1 hD1 hk1 hS => ?_)
    obtain ⟨hP, hD⟩ := vj_all hFc hP1 hD1
    clear hP1 hD1 hk1 hFc
    generalize H1 = H at hP hS ⊢
    obtain ⟨hi17, h⟩ := gi_inv h
    refine va_iast hx hb hK hP hD hS 20 0 rfl rfl hi17 dX7_adds_151 (fun H locs hP hD hS => ?_)
    replace hP : va_P D vwCl (wM k aM Mestimate Munit Msort Mwidth Mmany Mreading Mvariance Mcovariance Mline formulas_16 Mroot kind_16 one_16 other_16 Msigns Mplace MleftOf MrightOf Mtype (upd Msum (s1.toNatClampNeg) r16) Msign MsignAt Mproduct Mvalue Mslope Mexponent Mdrawn Mslopes Mfrom Mfactor Mthrown Mlength Mmodels Mopen Mat Mrows Mx) H := hP
    replace hD : va_D A (wM k aM Mestimate Munit Msort Mwidth Mmany Mreading Mvariance Mcovariance Mline formulas_16 Mroot kind_16 one_16 other_16 Msigns Mplace MleftOf MrightOf Mtype (upd Msum (s1.toNatClampNeg) r16) Msign MsignAt Mproduct Mvalue Mslope Mexponent Mdrawn Mslopes Mfrom Mfactor Mthrown Mlength Mmodels Mopen Mat Mrows Mx) := hD
    exact BH_152  _ _ _ _ _ _ _ _ _ _ h _ _ _ hP hD hS (lv_sub hl [0] rfl)
  suffices main : ∀ (H : Heap) (locs : List Loc) (ls : Array Slot), va_P D vwCl (wM k aM Mestimate Munit Msort Mwidth Mmany Mreading Mvariance Mcovariance Mline Mformulas Mroot Mkind Mone Mother Msigns Mplace MleftOf MrightOf Mtype Msum Msign MsignAt Mproduct Mvalue Mslope Mexponent Mdrawn Mslopes Mfrom Mfactor Mthrown Mlength Mmodels Mopen Mat Mrows Mx) H → va_D A (wM k aM Mestimate Munit Msort Mwidth Mmany Mreading Mvariance Mcovariance Mline Mformulas Mroot Mkind Mone Mother Msigns Mplace MleftOf MrightOf Mtype Msum Msign MsignAt Mproduct Mvalue Mslope Mexponent Mdrawn Mslopes Mfrom Mfactor Mthrown Mlength Mmodels Mopen Mat Mrows Mx) → va_S A s.heap H locs → lv_has ls 2 [(0, .ref (aM 0))] → W p l e rmX7_adds s m args below meth c H locs 0 0 Q (F0 m 0 ls []) from main _ _ _ hP hD hS hl
  clear hP hD hS hl ls hAe
  intro H locs ls hP hD hS hl
  refine lv_aload_n hx hb dX7_adds_0 rfl (lv_at hl 0 rfl) ?_
  refine va_get (D := D) (ci := 7) (v := .ref (aM 20)) (C := RX7) (T := TX7) (N := 37) hx hb hts iX7 hown hK hP 0 rfl rfl 23 (by decide) f67 (fun _ h9 => h9) rfl dX7_adds_1 ?_
  refine lv_aload_n hx hb dX7_adds_4 rfl (lv_at hl 0 rfl) ?_
  refine va_get (D := D) (ci := 7) (v := .int Mopen) (C := RX7) (T := TX7) (N := 37) hx hb hts iX7 hown hK hP 0 rfl rfl 21 (by decide) f142 (fun _ h9 => h9) rfl dX7_adds_5 ?_
  obtain ⟨hi1, h⟩ := gi_inv h
  refine va_iald hx hb hK hP 20 0 rfl rfl hi1 dX7_adds_8 ?_
  refine lv_iconst (v := -1) hx hb dX7_adds_9 (by decide) ?_
  refine lv_icmp_ne (tgt := 34) hx hb dX7_adds_10 (by decide) (fun c2 => ?_) (fun c2 => ?_)
  · replace h := sf_f c2 h
    refine lv_sipush (v := 512) hx hb dX7_adds_34 (by decide) ?_
    refine lv_aload_n hx hb dX7_adds_37 rfl (lv_at hl 0 rfl) ?_
    refine va_get (D := D) (ci := 7) (v := .ref (aM 15)) (C := RX7) (T := TX7) (N := 37) hx hb hts iX7 hown hK hP 0 rfl rfl 17 (by decide) f52 (fun _ h9 => h9) rfl dX7_adds_38 ?_
    refine lv_bipush (v := 8) hx hb dX7_adds_41 (by decide) ?_
    obtain ⟨hi3, h⟩ := gi_inv h
    refine va_iald hx hb hK hP 15 0 rfl rfl hi3 dX7_adds_43 ?_
    refine lv_iadd hx hb dX7_adds_44 ?_
    refine lv_istore_n (lv' := [(1, .int (512 + (Msigns (8 : Int32).toNatClampNeg))), (0, .ref (aM 0))]) hx hb dX7_adds_45 rfl hl (by decide) rfl (fun ls hl => ?_)
    refine lv_aload_n hx hb dX7_adds_46 rfl (lv_at hl 1 rfl) ?_
    refine va_get (D := D) (ci := 7) (v := .ref (aM 16)) (C := RX7) (T := TX7) (N := 37) hx hb hts iX7 hown hK hP 0 rfl rfl 18 (by decide) f55 (fun _ h9 => h9) rfl dX7_adds_47 ?_
    refine lv_iload_n hx hb dX7_adds_50 rfl (lv_at hl 0 rfl) ?_
    refine lv_aload_n hx hb dX7_adds_51 rfl (lv_at hl 1 rfl) ?_
    refine va_get (D := D) (ci := 7) (v := .ref (aM 22)) (C := RX7) (T := TX7) (N := 37) hx hb hts iX7 hown hK hP 0 rfl rfl 25 (by decide) f73 (fun _ h9 => h9) rfl dX7_adds_52 ?_
    refine lv_aload_n hx hb dX7_adds_55 rfl (lv_at hl 1 rfl) ?_
    refine va_get (D := D) (ci := 7) (v := .int Mopen) (C := RX7) (T := TX7) (N := 37) hx hb hts iX7 hown hK hP 0 rfl rfl 21 (by decide) f142 (fun _ h9 => h9) rfl dX7_adds_56 ?_
    obtain ⟨hi4, h⟩ := gi_inv h
    refine va_iald hx hb hK hP 22 0 rfl rfl hi4 dX7_adds_59 ?_
    obtain ⟨hi5, h⟩ := gi_inv h
    refine va_iast hx hb hK hP hD hS 16 0 rfl rfl hi5 dX7_adds_60 (fun H locs hP hD hS => ?_)
    replace hP : va_P D vwCl (wM k aM Mestimate Munit Msort Mwidth Mmany Mreading Mvariance Mcovariance Mline Mformulas Mroot Mkind Mone Mother Msigns (upd Mplace ((512 + (Msigns (8 : Int32).toNatClampNeg)).toNatClampNeg) (MsignAt Mopen.toNatClampNeg)) MleftOf MrightOf Mtype Msum Msign MsignAt Mproduct Mvalue Mslope Mexponent Mdrawn Mslopes Mfrom Mfactor Mthrown Mlength Mmodels Mopen Mat Mrows Mx) H := hP
    replace hD : va_D A (wM k aM Mestimate Munit Msort Mwidth Mmany Mreading Mvariance Mcovariance Mline Mformulas Mroot Mkind Mone Mother Msigns (upd Mplace ((512 + (Msigns (8 : Int32).toNatClampNeg)).toNatClampNeg) (MsignAt Mopen.toNatClampNeg)) MleftOf MrightOf Mtype Msum Msign MsignAt Mproduct Mvalue Mslope Mexponent Mdrawn Mslopes Mfrom Mfactor Mthrown Mlength Mmodels Mopen Mat Mrows Mx) := hD
    refine lv_aload_n hx hb dX7_adds_61 rfl (lv_at hl 1 rfl) ?_
    refine va_get (D := D) (ci := 7) (v := .ref (aM 17)) (C := RX7) (T := TX7) (N := 37) hx hb hts iX7 hown hK hP 0 rfl rfl 19 (by decide) f58 (fun _ h9 => h9) rfl dX7_adds_62 ?_
    refine lv_iload_n hx hb dX7_adds_65 rfl (lv_at hl 0 rfl) ?_
    refine lv_aload_n hx hb dX7_adds_66 rfl (lv_at hl 1 rfl) ?_
    refine va_get (D := D) (ci := 7) (v := .ref (aM 20)) (C := RX7) (T := TX7) (N := 37) hx hb hts iX7 hown hK hP 0 rfl rfl 23 (by decide) f67 (fun _ h9 => h9) rfl dX7_adds_67 ?_
    refine lv_aload_n hx hb dX7_adds_70 rfl (lv_at hl 1 rfl) ?_
    refine va_get (D := D) (ci := 7) (v := .int Mopen) (C := RX7) (T := TX7) (N := 37) hx hb hts iX7 hown hK hP 0 rfl rfl 21 (by decide) f142 (fun _ h9 => h9) rfl dX7_adds_71 ?_
    obtain ⟨hi6, h⟩ := gi_inv h
    refine va_iald hx hb hK hP 20 0 rfl rfl hi6 dX7_adds_74 ?_
    obtain ⟨hi7, h⟩ := gi_inv h
    refine va_iast hx hb hK hP hD hS 17 0 rfl rfl hi7 dX7_adds_75 (fun H locs hP hD hS => ?_)
    replace hP : va_P D vwCl (wM k aM Mestimate Munit Msort Mwidth Mmany Mreading Mvariance Mcovariance Mline Mformulas Mroot Mkind Mone Mother Msigns (upd Mplace ((512 + (Msigns (8 : Int32).toNatClampNeg)).toNatClampNeg) (MsignAt Mopen.toNatClampNeg)) (upd MleftOf ((512 + (Msigns (8 : Int32).toNatClampNeg)).toNatClampNeg) (Msum Mopen.toNatClampNeg)) MrightOf Mtype Msum Msign MsignAt Mproduct Mvalue Mslope Mexponent Mdrawn Mslopes Mfrom Mfactor Mthrown Mlength Mmodels Mopen Mat Mrows Mx) H := hP
    replace hD : va_D A (wM k aM Mestimate Munit Msort Mwidth Mmany Mreading Mvariance Mcovariance Mline Mformulas Mroot Mkind Mone Mother Msigns (upd Mplace ((512 + (Msigns (8 : Int32).toNatClampNeg)).toNatClampNeg) (MsignAt Mopen.toNatClampNeg)) (upd MleftOf ((512 + (Msigns (8 : Int32).toNatClampNeg)).toNatClampNeg) (Msum Mopen.toNatClampNeg)) MrightOf Mtype Msum Msign MsignAt Mproduct Mvalue Mslope Mexponent Mdrawn Mslopes Mfrom Mfactor Mthrown Mlength Mmodels Mopen Mat Mrows Mx) := hD
    refine lv_aload_n hx hb dX7_adds_76 rfl (lv_at hl 1 rfl) ?_
    refine va_get (D := D) (ci := 7) (v := .ref (aM 18)) (C := RX7) (T := TX7) (N := 37) hx hb hts iX7 hown hK hP 0 rfl rfl 20 (by decide) f61 (fun _ h9 => h9) rfl dX7_adds_77 ?_
    refine lv_iload_n hx hb dX7_adds_80 rfl (lv_at hl 0 rfl) ?_
    refine lv_aload_n hx hb dX7_adds_81 rfl (lv_at hl 1 rfl) ?_
    refine va_get (D := D) (ci := 7) (v := .ref (aM 23)) (C := RX7) (T := TX7) (N := 37) hx hb hts iX7 hown hK hP 0 rfl rfl 26 (by decide) f76 (fun _ h9 => h9) rfl dX7_adds_82 ?_
    refine lv_aload_n hx hb dX7_adds_85 rfl (lv_at hl 1 rfl) ?_
    refine va_get (D := D) (ci := 7) (v := .int Mopen) (C := RX7) (T := TX7) (N := 37) hx hb hts iX7 hown hK hP 0 rfl rfl 21 (by decide) f142 (fun _ h9 => h9) rfl dX7_adds_86 ?_
    obtain ⟨hi8, h⟩ := gi_inv h
    refine va_iald hx hb hK hP 23 0 rfl rfl hi8 dX7_adds_89 ?_
    obtain ⟨hi9, h⟩ := gi_inv h
    refine va_iast hx hb hK hP hD hS 18 0 rfl rfl hi9 dX7_adds_90 (fun H locs hP hD hS => ?_)
    replace hP : va_P D vwCl (wM k aM Mestimate Munit Msort Mwidth Mmany Mreading Mvariance Mcovariance Mline Mformulas Mroot Mkind Mone Mother Msigns (upd Mplace ((512 + (Msigns (8 : Int32).toNatClampNeg)).toNatClampNeg) (MsignAt Mopen.toNatClampNeg)) (upd MleftOf ((512 + (Msigns (8 : Int32).toNatClampNeg)).toNatClampNeg) (Msum Mopen.toNatClampNeg)) (upd MrightOf ((512 + (Msigns (8 : Int32).toNatClampNeg)).toNatClampNeg) (Mproduct Mopen.toNatClampNeg)) Mtype Msum Msign MsignAt Mproduct Mvalue Mslope Mexponent Mdrawn Mslopes Mfrom Mfactor Mthrown Mlength Mmodels Mopen Mat Mrows Mx) H := hP
    replace hD : va_D A (wM k aM Mestimate Munit Msort Mwidth Mmany Mreading Mvariance Mcovariance Mline Mformulas Mroot Mkind Mone Mother Msigns (upd Mplace ((512 + (Msigns (8 : Int32).toNatClampNeg)).toNatClampNeg) (MsignAt Mopen.toNatClampNeg)) (upd MleftOf ((512 + (Msigns (8 : Int32).toNatClampNeg)).toNatClampNeg) (Msum Mopen.toNatClampNeg)) (upd MrightOf ((512 + (Msigns (8 : Int32).toNatClampNeg)).toNatClampNeg) (Mproduct Mopen.toNatClampNeg)) Mtype Msum Msign MsignAt Mproduct Mvalue Mslope Mexponent Mdrawn Mslopes Mfrom Mfactor Mthrown Mlength Mmodels Mopen Mat Mrows Mx) := hD
    refine lv_aload_n hx hb dX7_adds_91 rfl (lv_at hl 1 rfl) ?_
    refine va_get (D := D) (ci := 7) (v := .ref (aM 15)) (C := RX7) (T := TX7) (N := 37) hx hb hts iX7 hown hK hP 0 rfl rfl 17 (by decide) f52 (fun _ h9 => h9) rfl dX7_adds_92 ?_
    refine lv_bipush (v := 8) hx hb dX7_adds_95 (by decide) ?_
    refine lv_dup2_11 hx hb dX7_adds_97 rfl rfl ?_
    obtain ⟨hi10, h⟩ := gi_inv h
    refine va_iald hx hb hK hP 15 0 rfl rfl hi10 dX7_adds_98 ?_
    refine lv_iconst (v := 1) hx hb dX7_adds_99 (by decide) ?_
    refine lv_iadd hx hb dX7_adds_100 ?_
    obtain ⟨hi11, h⟩ := gi_inv h
    refine va_iast hx hb hK hP hD hS 15 0 rfl rfl hi11 dX7_adds_101 (fun H locs hP hD hS => ?_)
    replace hP : va_P D vwCl (wM k aM Mestimate Munit Msort Mwidth Mmany Mreading Mvariance Mcovariance Mline Mformulas Mroot Mkind Mone Mother (upd Msigns ((8 : Int32).toNatClampNeg) ((Msigns (8 : Int32).toNatClampNeg) + 1)) (upd Mplace ((512 + (Msigns (8 : Int32).toNatClampNeg)).toNatClampNeg) (MsignAt Mopen.toNatClampNeg)) (upd MleftOf ((512 + (Msigns (8 : Int32).toNatClampNeg)).toNatClampNeg) (Msum Mopen.toNatClampNeg)) (upd MrightOf ((512 + (Msigns (8 : Int32).toNatClampNeg)).toNatClampNeg) (Mproduct Mopen.toNatClampNeg)) Mtype Msum Msign MsignAt Mproduct Mvalue Mslope Mexponent Mdrawn Mslopes Mfrom Mfactor Mthrown Mlength Mmodels Mopen Mat Mrows Mx) H := hP
    replace hD : va_D A (wM k aM Mestimate Munit Msort Mwidth Mmany Mreading Mvariance Mcovariance Mline Mformulas Mroot Mkind Mone Mother (upd Msigns ((8 : Int32).toNatClampNeg) ((Msigns (8 : Int32).toNatClampNeg) + 1)) (upd Mplace ((512 + (Msigns (8 : Int32).toNatClampNeg)).toNatClampNeg) (MsignAt Mopen.toNatClampNeg)) (upd MleftOf ((512 + (Msigns (8 : Int32).toNatClampNeg)).toNatClampNeg) (Msum Mopen.toNatClampNeg)) (upd MrightOf ((512 + (Msigns (8 : Int32).toNatClampNeg)).toNatClampNeg) (Mproduct Mopen.toNatClampNeg)) Mtype Msum Msign MsignAt Mproduct Mvalue Mslope Mexponent Mdrawn Mslopes Mfrom Mfactor Mthrown Mlength Mmodels Mopen Mat Mrows Mx) := hD
    refine lv_aload_n hx hb dX7_adds_102 rfl (lv_at hl 1 rfl) ?_
    refine va_get (D := D) (ci := 7) (v := .ref (aM 20)) (C := RX7) (T := TX7) (N := 37) hx hb hts iX7 hown hK hP 0 rfl rfl 23 (by decide) f67 (fun _ h9 => h9) rfl dX7_adds_103 ?_
    refine lv_aload_n hx hb dX7_adds_106 rfl (lv_at hl 1 rfl) ?_
    refine va_get (D := D) (ci := 7) (v := .int Mopen) (C := RX7) (T := TX7) (N := 37) hx hb hts iX7 hown hK hP 0 rfl rfl 21 (by decide) f142 (fun _ h9 => h9) rfl dX7_adds_107 ?_
    refine lv_aload_n hx hb dX7_adds_110 rfl (lv_at hl 1 rfl) ?_
    refine lv_aload_n hx hb dX7_adds_111 rfl (lv_at hl 1 rfl) ?_
    refine va_get (D := D) (ci := 7) (v := .ref (aM 21)) (C := RX7) (T := TX7) (N := 37) hx hb hts iX7 hown hK hP 0 rfl rfl 24 (by decide) f70 (fun _ h9 => h9) rfl dX7_adds_112 ?_
    refine lv_aload_n hx hb dX7_adds_115 rfl (lv_at hl 1 rfl) ?_
    refine va_get (D := D) (ci := 7) (v := .int Mopen) (C := RX7) (T := TX7) (N := 37) hx hb hts iX7 hown hK hP 0 rfl rfl 21 (by decide) f142 (fun _ h9 => h9) rfl dX7_adds_116 ?_
    obtain ⟨hi12, h⟩ := gi_inv h
    refine va_iald hx hb hK hP 21 0 rfl rfl hi12 dX7_adds_119 ?_
    refine lv_bipush (v := 43) hx hb dX7_adds_120 (by decide) ?_
    refine lv_icmp_ne (tgt := 129) hx hb dX7_adds_122 (by decide) (fun c13 => ?_) (fun c13 => ?_)
    · replace h := sf_f c13 h
      refine lv_iconst (v := 3) hx hb dX7_adds_129 (by decide) ?_
      exact BH_130  _ _ _ _ _ _ _ _ _ _ _ _ h _ _ _ hP hD hS (lv_sub hl [1] rfl)
    · replace h := sf_t c13 h
      refine lv_iconst (v := 2) hx hb dX7_adds_125 (by decide) ?_
      refine lv_goto (tgt := 130) hx hb dX7_adds_126 (by decide) ?_
      exact BH_130  _ _ _ _ _ _ _ _ _ _ _ _ h _ _ _ hP hD hS (lv_sub hl [1] rfl)
  · replace h := sf_t c2 h
    refine lv_aload_n hx hb dX7_adds_13 rfl (lv_at hl 0 rfl) ?_
    refine va_get (D := D) (ci := 7) (v := .ref (aM 20)) (C := RX7) (T := TX7) (N := 37) hx hb hts iX7 hown hK hP 0 rfl rfl 23 (by decide) f67 (fun _ h9 => h9) rfl dX7_adds_14 ?_
    refine lv_aload_n hx hb dX7_adds_17 rfl (lv_at hl 0 rfl) ?_
    refine va_get (D := D) (ci := 7) (v := .int Mopen) (C := RX7) (T := TX7) (N := 37) hx hb hts iX7 hown hK hP 0 rfl rfl 21 (by decide) f142 (fun _ h9 => h9) rfl dX7_adds_18 ?_
    refine lv_aload_n hx hb dX7_adds_21 rfl (lv_at hl 0 rfl) ?_
    refine va_get (D := D) (ci := 7) (v := .ref (aM 23)) (C := RX7) (T := TX7) (N := 37) hx hb hts iX7 hown hK hP 0 rfl rfl 26 (by decide) f76 (fun _ h9 => h9) rfl dX7_adds_22 ?_
    refine lv_aload_n hx hb dX7_adds_25 rfl (lv_at hl 0 rfl) ?_
    refine va_get (D := D) (ci := 7) (v := .int Mopen) (C := RX7) (T := TX7) (N := 37) hx hb hts iX7 hown hK hP 0 rfl rfl 21 (by decide) f142 (fun _ h9 => h9) rfl dX7_adds_26 ?_
    obtain ⟨hi19, h⟩ := gi_inv h
    refine va_iald hx hb hK hP 23 0 rfl rfl hi19 dX7_adds_29 ?_
    obtain ⟨hi20, h⟩ := gi_inv h
    refine va_iast hx hb hK hP hD hS 20 0 rfl rfl hi20 dX7_adds_30 (fun H locs hP hD hS => ?_)
    replace hP : va_P D vwCl (wM k aM Mestimate Munit Msort Mwidth Mmany Mreading Mvariance Mcovariance Mline Mformulas Mroot Mkind Mone Mother Msigns Mplace MleftOf MrightOf Mtype (upd Msum (Mopen.toNatClampNeg) (Mproduct Mopen.toNatClampNeg)) Msign MsignAt Mproduct Mvalue Mslope Mexponent Mdrawn Mslopes Mfrom Mfactor Mthrown Mlength Mmodels Mopen Mat Mrows Mx) H := hP
    replace hD : va_D A (wM k aM Mestimate Munit Msort Mwidth Mmany Mreading Mvariance Mcovariance Mline Mformulas Mroot Mkind Mone Mother Msigns Mplace MleftOf MrightOf Mtype (upd Msum (Mopen.toNatClampNeg) (Mproduct Mopen.toNatClampNeg)) Msign MsignAt Mproduct Mvalue Mslope Mexponent Mdrawn Mslopes Mfrom Mfactor Mthrown Mlength Mmodels Mopen Mat Mrows Mx) := hD
    refine lv_goto (tgt := 152) hx hb dX7_adds_31 (by decide) ?_
    exact BH_152  _ _ _ _ _ _ _ _ _ _ h _ _ _ hP hD hS (lv_sub hl [0] rfl)
def BX7_begins_44 (Mline : Nat → Int32) (Mlength : Int32) (K : (Nat → Int32) → (Nat → Int32) → (Nat → Int32) → Int32 → Int32 → Option (Int32 × (Nat → Int32) × (Nat → Int32) × (Nat → Int32) × Int32 × Int32)) (E27 : (Nat → Int32) → (Nat → Int32) → (Nat → Int32) → Int32 → Int32 → Option (Int32 × (Nat → Int32) × (Nat → Int32) × (Nat → Int32) × Int32 × Int32)) (E60 : (Nat → Int32) → (Nat → Int32) → (Nat → Int32) → Int32 → Int32 → Option (Int32 × (Nat → Int32) × (Nat → Int32) × (Nat → Int32) × Int32 × Int32)) (s1 : Int32) (Mtype : Nat → Int32) (Msum : Nat → Int32) (Mproduct : Nat → Int32) (Mopen : Int32) (Mat : Int32) : Option (Int32 × (Nat → Int32) × (Nat → Int32) × (Nat → Int32) × Int32 × Int32) := bnd4 (fX7_opens s1 Mtype Msum Mproduct Mopen) (fun type__6 sum_6 product_6 open__6 => K type__6 sum_6 product_6 open__6 (Mat + 1))
def BX7_begins_18 (Mline : Nat → Int32) (Mlength : Int32) (K : (Nat → Int32) → (Nat → Int32) → (Nat → Int32) → Int32 → Int32 → Option (Int32 × (Nat → Int32) × (Nat → Int32) × (Nat → Int32) × Int32 × Int32)) (E27 : (Nat → Int32) → (Nat → Int32) → (Nat → Int32) → Int32 → Int32 → Option (Int32 × (Nat → Int32) × (Nat → Int32) × (Nat → Int32) × Int32 × Int32)) (E60 : (Nat → Int32) → (Nat → Int32) → (Nat → Int32) → Int32 → Int32 → Option (Int32 × (Nat → Int32) × (Nat → Int32) × (Nat → Int32) × Int32 × Int32)) (Mtype : Nat → Int32) (Msum : Nat → Int32) (Mproduct : Nat → Int32) (Mopen : Int32) (Mat : Int32) : Option (Int32 × (Nat → Int32) × (Nat → Int32) × (Nat → Int32) × Int32 × Int32) := (if Mopen = 7 then E27 Mtype Msum Mproduct Mopen Mat else bnd1 (fX7_sign Mline Mlength Mat) (fun r4 => (if r4 = 45 then BX7_begins_44 Mline Mlength (K) E27 E60 1 Mtype Msum Mproduct Mopen Mat else BX7_begins_44 Mline Mlength (K) E27 E60 0 Mtype Msum Mproduct Mopen Mat)))
def LX7_begins_0 (Mline : Nat → Int32) (Mlength : Int32) (E27 : (Nat → Int32) → (Nat → Int32) → (Nat → Int32) → Int32 → Int32 → Option (Int32 × (Nat → Int32) × (Nat → Int32) × (Nat → Int32) × Int32 × Int32)) (E60 : (Nat → Int32) → (Nat → Int32) → (Nat → Int32) → Int32 → Int32 → Option (Int32 × (Nat → Int32) × (Nat → Int32) × (Nat → Int32) × Int32 × Int32)) : Nat → (Nat → Int32) → (Nat → Int32) → (Nat → Int32) → Int32 → Int32 → Option (Int32 × (Nat → Int32) × (Nat → Int32) × (Nat → Int32) × Int32 × Int32)
  | 0, _, _, _, _, _ => none
  | fuel + 1, Mtype, Msum, Mproduct, Mopen, Mat => bnd1 (fX7_sign Mline Mlength Mat) (fun r1 => (if r1 = 45 then BX7_begins_18 Mline Mlength (LX7_begins_0 Mline Mlength E27 E60 fuel) E27 E60 Mtype Msum Mproduct Mopen Mat else bnd1 (fX7_sign Mline Mlength Mat) (fun r7 => (if r7 = 40 then BX7_begins_18 Mline Mlength (LX7_begins_0 Mline Mlength E27 E60 fuel) E27 E60 Mtype Msum Mproduct Mopen Mat else E60 Mtype Msum Mproduct Mopen Mat))))
def fX7_begins (Mline : Nat → Int32) (Mtype : Nat → Int32) (Msum : Nat → Int32) (Mproduct : Nat → Int32) (Mlength : Int32) (Mopen : Int32) (Mat : Int32) : Option (Int32 × (Nat → Int32) × (Nat → Int32) × (Nat → Int32) × Int32 × Int32) := LX7_begins_0 Mline Mlength (fun (Mtype : Nat → Int32) (Msum : Nat → Int32) (Mproduct : Nat → Int32) (Mopen : Int32) (Mat : Int32) => some (0, Mtype, Msum, Mproduct, Mopen, Mat)) (fun (Mtype : Nat → Int32) (Msum : Nat → Int32) (Mproduct : Nat → Int32) (Mopen : Int32) (Mat : Int32) => bnd1 (fX7_sign Mline Mlength Mat) (fun r9 => bnd1 (fX7_isDigit r9) (fun r10 => (if r10 = 0 then bnd1 (fX7_sign Mline Mlength Mat) (fun r12 => bnd1 (fX7_isIn r12 97 102) (fun r13 => (if r13 = 0 then some (0, Mtype, Msum, Mproduct, Mopen, Mat) else some (1, Mtype, Msum, Mproduct, Mopen, Mat)))) else some (1, Mtype, Msum, Mproduct, Mopen, Mat))))) 1000 Mtype Msum Mproduct Mopen Mat
abbrev rmX7_begins : Room := { frames := 2, cells := 0, slots := 0, locals := 42 }
set_option maxHeartbeats 4000000 in
set_option maxRecDepth 100000 in
theorem met_X7_begins (l : Launch) (D : va_G) (k : Nat → ClassId)  (aM : Nat → Nat) (sz : Nat) (Mestimate : Nat → Int32) (Munit : Nat → Int32) (Msort : Nat → Int32) (Mwidth : Nat → Int32) (Mmany : Nat → Int32) (Mreading : Nat → Int32) (Mvariance : Nat → Int32) (Mcovariance : Nat → Int32) (Mline : Nat → Int32) (Mformulas : Nat → Int32) (Mroot : Nat → Int32) (Mkind : Nat → Int32) (Mone : Nat → Int32) (Mother : Nat → Int32) (Msigns : Nat → Int32) (Mplace : Nat → Int32) (MleftOf : Nat → Int32) (MrightOf : Nat → Int32) (Mtype : Nat → Int32) (Msum : Nat → Int32) (Msign : Nat → Int32) (MsignAt : Nat → Int32) (Mproduct : Nat → Int32) (Mvalue : Nat → Int64) (Mslope : Nat → Int64) (Mexponent : Nat → Int32) (Mdrawn : Nat → Int32) (Mslopes : Nat → Int64) (Mfrom : Nat → Int32) (Mfactor : Nat → Int32) (Mthrown : Int32) (Mlength : Int32) (Mmodels : Int32) (Mopen : Int32) (Mat : Int32) (Mrows : Int32) (Mx : Int32)  (r : Int32) (RMtype : Nat → Int32) (RMsum : Nat → Int32) (RMproduct : Nat → Int32) (RMopen : Int32) (RMat : Int32) (h : fX7_begins Mline Mtype Msum Mproduct Mlength Mopen Mat = some (r, RMtype, RMsum, RMproduct, RMopen, RMat)) : Met l yX7_begins wsX7_begins rmX7_begins (va_Pc [.ref (aM 0)] (PreW D k (wM k aM Mestimate Munit Msort Mwidth Mmany Mreading Mvariance Mcovariance Mline Mformulas Mroot Mkind Mone Mother Msigns Mplace MleftOf MrightOf Mtype Msum Msign MsignAt Mproduct Mvalue Mslope Mexponent Mdrawn Mslopes Mfrom Mfactor Mthrown Mlength Mmodels Mopen Mat Mrows Mx) sz)) (va_Qi (fun r9 (_ : Unit) => r9 = r) (fun _ t => PostW D k (va_A (wM k aM Mestimate Munit Msort Mwidth Mmany Mreading Mvariance Mcovariance Mline Mformulas Mroot Mkind Mone Mother Msigns Mplace MleftOf MrightOf Mtype Msum Msign MsignAt Mproduct Mvalue Mslope Mexponent Mdrawn Mslopes Mfrom Mfactor Mthrown Mlength Mmodels Mopen Mat Mrows Mx) sz) (wM k aM Mestimate Munit Msort Mwidth Mmany Mreading Mvariance Mcovariance Mline Mformulas Mroot Mkind Mone Mother Msigns Mplace MleftOf MrightOf RMtype RMsum Msign MsignAt RMproduct Mvalue Mslope Mexponent Mdrawn Mslopes Mfrom Mfactor Mthrown Mlength Mmodels RMopen RMat Mrows Mx) t) (va_A (wM k aM Mestimate Munit Msort Mwidth Mmany Mreading Mvariance Mcovariance Mline Mformulas Mroot Mkind Mone Mother Msigns Mplace MleftOf MrightOf Mtype Msum Msign MsignAt Mproduct Mvalue Mslope Mexponent Mdrawn Mslopes Mfrom Mfactor Mthrown Mlength Mmodels Mopen Mat Mrows Mx) sz)) 0 0 (va_A (wM k aM Mestimate Munit Msort Mwidth Mmany Mreading Mvariance Mcovariance Mline Mformulas Mroot Mkind Mone Mother Msigns Mplace MleftOf MrightOf Mtype Msum Msign MsignAt Mproduct Mvalue Mslope Mexponent Mdrawn Mslopes Mfrom Mfactor Mthrown Mlength Mmodels Mopen Mat Mrows Mx) sz) := by
  refine Met.ofW (cc := cX7_begins) (maxL := 1) (ret := (some .boolean)) (by decide) rfl ?_
  intro p e s m args below meth c s₁ B hml hv
  obtain ⟨hav, hsz, hP, hK, hD0⟩ := hv
  have hx := B.exec
  have hb := B.bytes
  have hr := B.returns
  have hts := atoms_spec (ws := wsX7_begins) B.pre
  have hown : s.vm.findClass RX7 = some m.cls := findClass_of_methodNamed B.named
  have hlocks := B.notSynchronized
  subst hsz
  have hD := hD0.self (sz := s.heap.size)
  clear hD0
  generalize hAe : va_A (wM k aM Mestimate Munit Msort Mwidth Mmany Mreading Mvariance Mcovariance Mline Mformulas Mroot Mkind Mone Mother Msigns Mplace MleftOf MrightOf Mtype Msum Msign MsignAt Mproduct Mvalue Mslope Mexponent Mdrawn Mslopes Mfrom Mfactor Mthrown Mlength Mmodels Mopen Mat Mrows Mx) s.heap.size = A at hD ⊢
  have hA : ∀ q : Nat, s.heap.size ≤ q → A q := fun q h => by rw [← hAe]; exact Or.inr h
  have hS : va_S A s.heap s.heap [] := va_S.rf
  have hl := lv_entry ([.ref (aM 0)]) (n := 1) (Nat.le_of_ble_eq_true rfl)
  rw [show entryFrame m args 1 = entryFrame m ([.ref (aM 0)] : List Value).toArray 1 from by rw [hav], lg_entry_eq]
  generalize (lg_sl ([.ref (aM 0)]) ++ List.replicate (1 - (lg_sl ([.ref (aM 0)])).length) Slot.unset).toArray = ls at hl ⊢
  replace hl : lv_has ls 1 [(0, .ref (aM 0))] := hl
  have f139 := hts (.fieldLink RX7 139 "UncertainBookModel" "at" "I") (by decide +kernel)
  have f142 := hts (.fieldLink RX7 142 "UncertainBookModel" "open" "I") (by decide +kernel)
  have iX7 : ∀ w ∈ u_ws RX7 TX7 37, w ∈ wsX7_begins := by decide +kernel
  refine w_q (fun Q hQ => ?_)
  unfold fX7_begins at h
  show W p l e rmX7_begins s m args below meth c s.heap [] 0 0 Q (F0 m 0 ls [])
  have BH_44 : ∀ (K : (Nat → Int32) → (Nat → Int32) → (Nat → Int32) → Int32 → Int32 → Option (Int32 × (Nat → Int32) × (Nat → Int32) × (Nat → Int32) × Int32 × Int32)) (hKK : ∀ (Mtype : Nat → Int32) (Msum : Nat → Int32) (Mproduct : Nat → Int32) (Mopen : Int32) (Mat : Int32), K Mtype Msum Mproduct Mopen Mat = some (r, RMtype, RMsum, RMproduct, RMopen, RMat) → ∀ (H : Heap) (locs : List Loc) (ls : Array Slot), va_P D vwCl (wM k aM Mestimate Munit Msort Mwidth Mmany Mreading Mvariance Mcovariance Mline Mformulas Mroot Mkind Mone Mother Msigns Mplace MleftOf MrightOf Mtype Msum Msign MsignAt Mproduct Mvalue Mslope Mexponent Mdrawn Mslopes Mfrom Mfactor Mthrown Mlength Mmodels Mopen Mat Mrows Mx) H → va_D A (wM k aM Mestimate Munit Msort Mwidth Mmany Mreading Mvariance Mcovariance Mline Mformulas Mroot Mkind Mone Mother Msigns Mplace MleftOf MrightOf Mtype Msum Msign MsignAt Mproduct Mvalue Mslope Mexponent Mdrawn Mslopes Mfrom Mfactor Mthrown Mlength Mmodels Mopen Mat Mrows Mx) → va_S A s.heap H locs → lv_has ls 1 [(0, .ref (aM 0))] → W p l e rmX7_begins s m args below meth c H locs 0 0 Q (F0 m 0 ls [])) (E27 : (Nat → Int32) → (Nat → Int32) → (Nat → Int32) → Int32 → Int32 → Option (Int32 × (Nat → Int32) × (Nat → Int32) × (Nat → Int32) × Int32 × Int32)) (hE27 : ∀ (Mtype : Nat → Int32) (Msum : Nat → Int32) (Mproduct : Nat → Int32) (Mopen : Int32) (Mat : Int32), E27 Mtype Msum Mproduct Mopen Mat = some (r, RMtype, RMsum, RMproduct, RMopen, RMat) → ∀ (H : Heap) (locs : List Loc) (ls : Array Slot), va_P D vwCl (wM k aM Mestimate Munit Msort Mwidth Mmany Mreading Mvariance Mcovariance Mline Mformulas Mroot Mkind Mone Mother Msigns Mplace MleftOf MrightOf Mtype Msum Msign MsignAt Mproduct Mvalue Mslope Mexponent Mdrawn Mslopes Mfrom Mfactor Mthrown Mlength Mmodels Mopen Mat Mrows Mx) H → va_D A (wM k aM Mestimate Munit Msort Mwidth Mmany Mreading Mvariance Mcovariance Mline Mformulas Mroot Mkind Mone Mother Msigns Mplace MleftOf MrightOf Mtype Msum Msign MsignAt Mproduct Mvalue Mslope Mexponent Mdrawn Mslopes Mfrom Mfactor Mthrown Mlength Mmodels Mopen Mat Mrows Mx) → va_S A s.heap H locs → lv_has ls 1 [] → W p l e rmX7_begins s m args below meth c H locs 0 0 Q (F0 m 27 ls [])) (E60 : (Nat → Int32) → (Nat → Int32) → (Nat → Int32) → Int32 → Int32 → Option (Int32 × (Nat → Int32) × (Nat → Int32) × (Nat → Int32) × Int32 × Int32)) (hE60 : ∀ (Mtype : Nat → Int32) (Msum : Nat → Int32) (Mproduct : Nat → Int32) (Mopen : Int32) (Mat : Int32), E60 Mtype Msum Mproduct Mopen Mat = some (r, RMtype, RMsum, RMproduct, RMopen, RMat) → ∀ (H : Heap) (locs : List Loc) (ls : Array Slot), va_P D vwCl (wM k aM Mestimate Munit Msort Mwidth Mmany Mreading Mvariance Mcovariance Mline Mformulas Mroot Mkind Mone Mother Msigns Mplace MleftOf MrightOf Mtype Msum Msign MsignAt Mproduct Mvalue Mslope Mexponent Mdrawn Mslopes Mfrom Mfactor Mthrown Mlength Mmodels Mopen Mat Mrows Mx) H → va_D A (wM k aM Mestimate Munit Msort Mwidth Mmany Mreading Mvariance Mcovariance Mline Mformulas Mroot Mkind Mone Mother Msigns Mplace MleftOf MrightOf Mtype Msum Msign MsignAt Mproduct Mvalue Mslope Mexponent Mdrawn Mslopes Mfrom Mfactor Mthrown Mlength Mmodels Mopen Mat Mrows Mx) → va_S A s.heap H locs → lv_has ls 1 [(0, .ref (aM 0))] → W p l e rmX7_begins s m args below meth c H locs 0 0 Q (F0 m 60 ls [])) (s1 : Int32) (Mtype : Nat → Int32) (Msum : Nat → Int32) (Mproduct : Nat → Int32) (Mopen : Int32) (Mat : Int32), BX7_begins_44 Mline Mlength K E27 E60 s1 Mtype Msum Mproduct Mopen Mat = some (r, RMtype, RMsum, RMproduct, RMopen, RMat) → ∀ (H : Heap) (locs : List Loc) (ls : Array Slot), va_P D vwCl (wM k aM Mestimate Munit Msort Mwidth Mmany Mreading Mvariance Mcovariance Mline Mformulas Mroot Mkind Mone Mother Msigns Mplace MleftOf MrightOf Mtype Msum Msign MsignAt Mproduct Mvalue Mslope Mexponent Mdrawn Mslopes Mfrom Mfactor Mthrown Mlength Mmodels Mopen Mat Mrows Mx) H → va_D A (wM k aM Mestimate Munit Msort Mwidth Mmany Mreading Mvariance Mcovariance Mline Mformulas Mroot Mkind Mone Mother Msigns Mplace MleftOf MrightOf Mtype Msum Msign MsignAt Mproduct Mvalue Mslope Mexponent Mdrawn Mslopes Mfrom Mfactor Mthrown Mlength Mmodels Mopen Mat Mrows Mx) → va_S A s.heap H locs → lv_has ls 1 [(0, .ref (aM 0))] → W p l e rmX7_begins s m args below meth c H locs 0 0 Q (F0 m 44 ls [.int s1, .ref (aM 0)]) := by
    intro K hKK E27 hE27 E60 hE60 s1 Mtype Msum Mproduct Mopen Mat h H locs ls hP hD hS hl
    unfold BX7_begins_44 at h
    obtain ⟨type__6, sum_6, product_6, open__6, hc6, h⟩ := bnd4_inv h
    have hFc := va_free (wc := (wM k aM Mestimate Munit Msort Mwidth Mmany Mreading Mvariance Mcovariance Mline Mformulas Mroot Mkind Mone Mother Msigns Mplace MleftOf MrightOf Mtype Msum Msign MsignAt Mproduct Mvalue Mslope Mexponent Mdrawn Mslopes Mfrom Mfactor Mthrown Mlength Mmodels Mopen Mat Mrows Mx)) hD hS hA [0, 1, 2, 3, 4, 5, 6, 7, 8, 9, 10, 11, 12, 13, 14, 15, 16, 17, 18, 19, 20, 21, 22, 23, 24, 25, 26, 27, 28, 29, 30] rfl
    refine xc_v (va_runV (As := [.int s1]) (rest := []) ⟨hx, hb, hml, hown, hts⟩ (met_X7_opens l D k  aM H.size Mestimate Munit Msort Mwidth Mmany Mreading Mvariance Mcovariance Mline Mformulas Mroot Mkind Mone Mother Msigns Mplace MleftOf MrightOf Mtype Msum Msign MsignAt Mproduct Mvalue Mslope Mexponent Mdrawn Mslopes Mfrom Mfactor Mthrown Mlength Mmodels Mopen Mat Mrows Mx s1 type__6 sum_6 product_6 open__6 hc6) (cwV 1 hts gX7_begins_X7_opens rfl rfl rfl (by decide +kernel) ⟨Nat.le_of_ble_eq_true rfl, Nat.le_of_ble_eq_true rfl⟩) ⟨pw_blind, va_recv hK hP (ci := 7) (q0 := 0) rfl rfl, pw_start hP hK hD⟩ rfl rfl hl.1 rfl (lv_room (Nat.le_of_ble_eq_true rfl)) dX7_begins_44 ⟨Nat.zero_le _, Nat.zero_le _⟩) hS hFc (fun H1 locs hP1 hD1 hk1 hS => ?_)
    obtain ⟨hP, hD⟩ := vj_all hFc hP1 hD1
    clear hP1 hD1 hk1 hFc
    generalize H1 = H at hP hS ⊢
    refine lv_aload_n hx hb dX7_begins_47 rfl (lv_at hl 0 rfl) ?_
    refine lv_dup hx hb dX7_begins_48 rfl ?_
    refine va_get (D := D) (ci := 7) (v := .int Mat) (C := RX7) (T := TX7) (N := 37) hx hb hts iX7 hown hK hP 0 rfl rfl 27 (by decide) f139 (fun _ h9 => h9) rfl dX7_begins_49 ?_
    refine lv_iconst (v := 1) hx hb dX7_begins_52 (by decide) ?_
    refine lv_iadd hx hb dX7_begins_53 ?_
    refine va_put (D := D) (ci := 7) (v := .int (Mat + 1)) (ty := .int) (C := RX7) (T := TX7) (N := 37) hx hb hts iX7 tyX7 tyX7_ok nmX7 hown hK hP hD hS 0 rfl rfl 27 (by decide) f139 (fun _ h9 => h9) rfl (by decide +kernel) rfl rfl (Nat.le_of_ble_eq_true rfl) dX7_begins_54 (fun H locs hP hD hS => ?_)
    replace hP : va_P D vwCl (wM k aM Mestimate Munit Msort Mwidth Mmany Mreading Mvariance Mcovariance Mline Mformulas Mroot Mkind Mone Mother Msigns Mplace MleftOf MrightOf type__6 sum_6 Msign MsignAt product_6 Mvalue Mslope Mexponent Mdrawn Mslopes Mfrom Mfactor Mthrown Mlength Mmodels open__6 (Mat + 1) Mrows Mx) H := hP
    replace hD : va_D A (wM k aM Mestimate Munit Msort Mwidth Mmany Mreading Mvariance Mcovariance Mline Mformulas Mroot Mkind Mone Mother Msigns Mplace MleftOf MrightOf type__6 sum_6 Msign MsignAt product_6 Mvalue Mslope Mexponent Mdrawn Mslopes Mfrom Mfactor Mthrown Mlength Mmodels open__6 (Mat + 1) Mrows Mx) := hD
    refine lv_goto (tgt := 0) hx hb dX7_begins_57 (by decide) ?_
    exact hKK _ _ _ _ _ h _ _ _ hP hD hS (lv_sub hl [0] rfl)
  have BH_18 : ∀ (K : (Nat → Int32) → (Nat → Int32) → (Nat → Int32) → Int32 → Int32 → Option (Int32 × (Nat → Int32) × (Nat → Int32) × (Nat → Int32) × Int32 × Int32)) (hKK : ∀ (Mtype : Nat → Int32) (Msum : Nat → Int32) (Mproduct : Nat → Int32) (Mopen : Int32) (Mat : Int32), K Mtype Msum Mproduct Mopen Mat = some (r, RMtype, RMsum, RMproduct, RMopen, RMat) → ∀ (H : Heap) (locs : List Loc) (ls : Array Slot), va_P D vwCl (wM k aM Mestimate Munit Msort Mwidth Mmany Mreading Mvariance Mcovariance Mline Mformulas Mroot Mkind Mone Mother Msigns Mplace MleftOf MrightOf Mtype Msum Msign MsignAt Mproduct Mvalue Mslope Mexponent Mdrawn Mslopes Mfrom Mfactor Mthrown Mlength Mmodels Mopen Mat Mrows Mx) H → va_D A (wM k aM Mestimate Munit Msort Mwidth Mmany Mreading Mvariance Mcovariance Mline Mformulas Mroot Mkind Mone Mother Msigns Mplace MleftOf MrightOf Mtype Msum Msign MsignAt Mproduct Mvalue Mslope Mexponent Mdrawn Mslopes Mfrom Mfactor Mthrown Mlength Mmodels Mopen Mat Mrows Mx) → va_S A s.heap H locs → lv_has ls 1 [(0, .ref (aM 0))] → W p l e rmX7_begins s m args below meth c H locs 0 0 Q (F0 m 0 ls [])) (E27 : (Nat → Int32) → (Nat → Int32) → (Nat → Int32) → Int32 → Int32 → Option (Int32 × (Nat → Int32) × (Nat → Int32) × (Nat → Int32) × Int32 × Int32)) (hE27 : ∀ (Mtype : Nat → Int32) (Msum : Nat → Int32) (Mproduct : Nat → Int32) (Mopen : Int32) (Mat : Int32), E27 Mtype Msum Mproduct Mopen Mat = some (r, RMtype, RMsum, RMproduct, RMopen, RMat) → ∀ (H : Heap) (locs : List Loc) (ls : Array Slot), va_P D vwCl (wM k aM Mestimate Munit Msort Mwidth Mmany Mreading Mvariance Mcovariance Mline Mformulas Mroot Mkind Mone Mother Msigns Mplace MleftOf MrightOf Mtype Msum Msign MsignAt Mproduct Mvalue Mslope Mexponent Mdrawn Mslopes Mfrom Mfactor Mthrown Mlength Mmodels Mopen Mat Mrows Mx) H → va_D A (wM k aM Mestimate Munit Msort Mwidth Mmany Mreading Mvariance Mcovariance Mline Mformulas Mroot Mkind Mone Mother Msigns Mplace MleftOf MrightOf Mtype Msum Msign MsignAt Mproduct Mvalue Mslope Mexponent Mdrawn Mslopes Mfrom Mfactor Mthrown Mlength Mmodels Mopen Mat Mrows Mx) → va_S A s.heap H locs → lv_has ls 1 [] → W p l e rmX7_begins s m args below meth c H locs 0 0 Q (F0 m 27 ls [])) (E60 : (Nat → Int32) → (Nat → Int32) → (Nat → Int32) → Int32 → Int32 → Option (Int32 × (Nat → Int32) × (Nat → Int32) × (Nat → Int32) × Int32 × Int32)) (hE60 : ∀ (Mtype : Nat → Int32) (Msum : Nat → Int32) (Mproduct : Nat → Int32) (Mopen : Int32) (Mat : Int32), E60 Mtype Msum Mproduct Mopen Mat = some (r, RMtype, RMsum, RMproduct, RMopen, RMat) → ∀ (H : Heap) (locs : List Loc) (ls : Array Slot), va_P D vwCl (wM k aM Mestimate Munit Msort Mwidth Mmany Mreading Mvariance Mcovariance Mline Mformulas Mroot Mkind Mone Mother Msigns Mplace MleftOf MrightOf Mtype Msum Msign MsignAt Mproduct Mvalue Mslope Mexponent Mdrawn Mslopes Mfrom Mfactor Mthrown Mlength Mmodels Mopen Mat Mrows Mx) H → va_D A (wM k aM Mestimate Munit Msort Mwidth Mmany Mreading Mvariance Mcovariance Mline Mformulas Mroot Mkind Mone Mother Msigns Mplace MleftOf MrightOf Mtype Msum Msign MsignAt Mproduct Mvalue Mslope Mexponent Mdrawn Mslopes Mfrom Mfactor Mthrown Mlength Mmodels Mopen Mat Mrows Mx) → va_S A s.heap H locs → lv_has ls 1 [(0, .ref (aM 0))] → W p l e rmX7_begins s m args below meth c H locs 0 0 Q (F0 m 60 ls [])) (Mtype : Nat → Int32) (Msum : Nat → Int32) (Mproduct : Nat → Int32) (Mopen : Int32) (Mat : Int32), BX7_begins_18 Mline Mlength K E27 E60 Mtype Msum Mproduct Mopen Mat = some (r, RMtype, RMsum, RMproduct, RMopen, RMat) → ∀ (H : Heap) (locs : List Loc) (ls : Array Slot), va_P D vwCl (wM k aM Mestimate Munit Msort Mwidth Mmany Mreading Mvariance Mcovariance Mline Mformulas Mroot Mkind Mone Mother Msigns Mplace MleftOf MrightOf Mtype Msum Msign MsignAt Mproduct Mvalue Mslope Mexponent Mdrawn Mslopes Mfrom Mfactor Mthrown Mlength Mmodels Mopen Mat Mrows Mx) H → va_D A (wM k aM Mestimate Munit Msort Mwidth Mmany Mreading Mvariance Mcovariance Mline Mformulas Mroot Mkind Mone Mother Msigns Mplace MleftOf MrightOf Mtype Msum Msign MsignAt Mproduct Mvalue Mslope Mexponent Mdrawn Mslopes Mfrom Mfactor Mthrown Mlength Mmodels Mopen Mat Mrows Mx) → va_S A s.heap H locs → lv_has ls 1 [(0, .ref (aM 0))] → W p l e rmX7_begins s m args below meth c H locs 0 0 Q (F0 m 18 ls []) := by
    intro K hKK E27 hE27 E60 hE60 Mtype Msum Mproduct Mopen Mat h H locs ls hP hD hS hl
    unfold BX7_begins_18 at h
    refine lv_aload_n hx hb dX7_begins_18 rfl (lv_at hl 0 rfl) ?_
    refine va_get (D := D) (ci := 7) (v := .int Mopen) (C := RX7) (T := TX7) (N := 37) hx hb hts iX7 hown hK hP 0 rfl rfl 21 (by decide) f142 (fun _ h9 => h9) rfl dX7_begins_19 ?_
    refine lv_bipush (v := 7) hx hb dX7_begins_22 (by decide) ?_
    refine lv_icmp_ne (tgt := 29) hx hb dX7_begins_24 (by decide) (fun c3 => ?_) (fun c3 => ?_)
    · replace h := sf_f c3 h
      refine lv_aload_n hx hb dX7_begins_29 rfl (lv_at hl 0 rfl) ?_
      refine lv_aload_n hx hb dX7_begins_30 rfl (lv_at hl 0 rfl) ?_
      obtain ⟨r4, hc4, h⟩ := bnd1_inv h
      have hFc := va_free (wc := (wM k aM Mestimate Munit Msort Mwidth Mmany Mreading Mvariance Mcovariance Mline Mformulas Mroot Mkind Mone Mother Msigns Mplace MleftOf MrightOf Mtype Msum Msign MsignAt Mproduct Mvalue Mslope Mexponent Mdrawn Mslopes Mfrom Mfactor Mthrown Mlength Mmodels Mopen Mat Mrows Mx)) hD hS hA [0, 1, 2, 3, 4, 5, 6, 7, 8, 9, 10, 11, 12, 13, 14, 15, 16, 17, 18, 19, 20, 21, 22, 23, 24, 25, 26, 27, 28, 29, 30] rfl
      refine xc_i (va_runV (As := []) (rest := [.ref (aM 0)]) ⟨hx, hb, hml, hown, hts⟩ (met_X7_sign l D k  aM H.size Mestimate Munit Msort Mwidth Mmany Mreading Mvariance Mcovariance Mline Mformulas Mroot Mkind Mone Mother Msigns Mplace MleftOf MrightOf Mtype Msum Msign MsignAt Mproduct Mvalue Mslope Mexponent Mdrawn Mslopes Mfrom Mfactor Mthrown Mlength Mmodels Mopen Mat Mrows Mx r4 hc4) (cwV 0 hts gX7_begins_X7_sign rfl rfl rfl (by decide +kernel) ⟨Nat.le_of_ble_eq_true rfl, Nat.le_of_ble_eq_true rfl⟩) ⟨pw_blind, va_recv hK hP (ci := 7) (q0 := 0) rfl rfl, pw_start hP hK hD⟩ rfl rfl hl.1 rfl (lv_room (Nat.le_of_ble_eq_true rfl)) dX7_begins_31 ⟨Nat.zero_le _, Nat.zero_le _⟩) hS hFc (fun H1 locs hP1 hD1 hk1 hS => ?_)
      obtain ⟨hP, hD⟩ := vj_all hFc hP1 hD1
      clear hP1 hD1 hk1 hFc
      generalize H1 = H at hP hS ⊢
      refine lv_bipush (v := 45) hx hb dX7_begins_34 (by decide) ?_
      refine lv_icmp_ne (tgt := 43) hx hb dX7_begins_36 (by decide) (fun c5 => ?_) (fun c5 => ?_)
      · replace h := sf_f c5 h
        refine lv_iconst (v := 0) hx hb dX7_begins_43 (by decide) ?_
        exact BH_44 _ hKK _ hE27 _ hE60 _ _ _ _ _ _ h _ _ _ hP hD hS (lv_sub hl [0] rfl)
      · replace h := sf_t c5 h
        refine lv_iconst (v := 1) hx hb dX7_begins_39 (by decide) ?_
        refine lv_goto (tgt := 44) hx hb dX7_begins_40 (by decide) ?_
        exact BH_44 _ hKK _ hE27 _ hE60 _ _ _ _ _ _ h _ _ _ hP hD hS (lv_sub hl [0] rfl)
    · replace h := sf_t c3 h
      exact hE27 _ _ _ _ _ h _ _ _ hP hD hS (lv_sub hl [] rfl)
  have LH_0 : ∀ (E27 : (Nat → Int32) → (Nat → Int32) → (Nat → Int32) → Int32 → Int32 → Option (Int32 × (Nat → Int32) × (Nat → Int32) × (Nat → Int32) × Int32 × Int32)) (hE27 : ∀ (Mtype : Nat → Int32) (Msum : Nat → Int32) (Mproduct : Nat → Int32) (Mopen : Int32) (Mat : Int32), E27 Mtype Msum Mproduct Mopen Mat = some (r, RMtype, RMsum, RMproduct, RMopen, RMat) → ∀ (H : Heap) (locs : List Loc) (ls : Array Slot), va_P D vwCl (wM k aM Mestimate Munit Msort Mwidth Mmany Mreading Mvariance Mcovariance Mline Mformulas Mroot Mkind Mone Mother Msigns Mplace MleftOf MrightOf Mtype Msum Msign MsignAt Mproduct Mvalue Mslope Mexponent Mdrawn Mslopes Mfrom Mfactor Mthrown Mlength Mmodels Mopen Mat Mrows Mx) H → va_D A (wM k aM Mestimate Munit Msort Mwidth Mmany Mreading Mvariance Mcovariance Mline Mformulas Mroot Mkind Mone Mother Msigns Mplace MleftOf MrightOf Mtype Msum Msign MsignAt Mproduct Mvalue Mslope Mexponent Mdrawn Mslopes Mfrom Mfactor Mthrown Mlength Mmodels Mopen Mat Mrows Mx) → va_S A s.heap H locs → lv_has ls 1 [] → W p l e rmX7_begins s m args below meth c H locs 0 0 Q (F0 m 27 ls [])) (E60 : (Nat → Int32) → (Nat → Int32) → (Nat → Int32) → Int32 → Int32 → Option (Int32 × (Nat → Int32) × (Nat → Int32) × (Nat → Int32) × Int32 × Int32)) (hE60 : ∀ (Mtype : Nat → Int32) (Msum : Nat → Int32) (Mproduct : Nat → Int32) (Mopen : Int32) (Mat : Int32), E60 Mtype Msum Mproduct Mopen Mat = some (r, RMtype, RMsum, RMproduct, RMopen, RMat) → ∀ (H : Heap) (locs : List Loc) (ls : Array Slot), va_P D vwCl (wM k aM Mestimate Munit Msort Mwidth Mmany Mreading Mvariance Mcovariance Mline Mformulas Mroot Mkind Mone Mother Msigns Mplace MleftOf MrightOf Mtype Msum Msign MsignAt Mproduct Mvalue Mslope Mexponent Mdrawn Mslopes Mfrom Mfactor Mthrown Mlength Mmodels Mopen Mat Mrows Mx) H → va_D A (wM k aM Mestimate Munit Msort Mwidth Mmany Mreading Mvariance Mcovariance Mline Mformulas Mroot Mkind Mone Mother Msigns Mplace MleftOf MrightOf Mtype Msum Msign MsignAt Mproduct Mvalue Mslope Mexponent Mdrawn Mslopes Mfrom Mfactor Mthrown Mlength Mmodels Mopen Mat Mrows Mx) → va_S A s.heap H locs → lv_has ls 1 [(0, .ref (aM 0))] → W p l e rmX7_begins s m args below meth c H locs 0 0 Q (F0 m 60 ls [])) (n : Nat) (Mtype : Nat → Int32) (Msum : Nat → Int32) (Mproduct : Nat → Int32) (Mopen : Int32) (Mat : Int32), LX7_begins_0 Mline Mlength E27 E60 n Mtype Msum Mproduct Mopen Mat = some (r, RMtype, RMsum, RMproduct, RMopen, RMat) → ∀ (H : Heap) (locs : List Loc) (ls : Array Slot), va_P D vwCl (wM k aM Mestimate Munit Msort Mwidth Mmany Mreading Mvariance Mcovariance Mline Mformulas Mroot Mkind Mone Mother Msigns Mplace MleftOf MrightOf Mtype Msum Msign MsignAt Mproduct Mvalue Mslope Mexponent Mdrawn Mslopes Mfrom Mfactor Mthrown Mlength Mmodels Mopen Mat Mrows Mx) H → va_D A (wM k aM Mestimate Munit Msort Mwidth Mmany Mreading Mvariance Mcovariance Mline Mformulas Mroot Mkind Mone Mother Msigns Mplace MleftOf MrightOf Mtype Msum Msign MsignAt Mproduct Mvalue Mslope Mexponent Mdrawn Mslopes Mfrom Mfactor Mthrown Mlength Mmodels Mopen Mat Mrows Mx) → va_S A s.heap H locs → lv_has ls 1 [(0, .ref (aM 0))] → W p l e rmX7_begins s m args below meth c H locs 0 0 Q (F0 m 0 ls []) := by
    intro E27 hE27 E60 hE60 n
    induction n with
    | zero => intro Mtype Msum Mproduct Mopen Mat h; simp [LX7_begins_0] at h
    | succ n ih =>
    intro Mtype Msum Mproduct Mopen Mat h H locs ls hP hD hS hl
    rw [LX7_begins_0] at h
    refine lv_aload_n hx hb dX7_begins_0 rfl (lv_at hl 0 rfl) ?_
    obtain ⟨r1, hc1, h⟩ := bnd1_inv h
    have hFc := va_free (wc := (wM k aM Mestimate Munit Msort Mwidth Mmany Mreading Mvariance Mcovariance Mline Mformulas Mroot Mkind Mone Mother Msigns Mplace MleftOf MrightOf Mtype Msum Msign MsignAt Mproduct Mvalue Mslope Mexponent Mdrawn Mslopes Mfrom Mfactor Mthrown Mlength Mmodels Mopen Mat Mrows Mx)) hD hS hA [0, 1, 2, 3, 4, 5, 6, 7, 8, 9, 10, 11, 12, 13, 14, 15, 16, 17, 18, 19, 20, 21, 22, 23, 24, 25, 26, 27, 28, 29, 30] rfl
    refine xc_i (va_runV (As := []) (rest := []) ⟨hx, hb, hml, hown, hts⟩ (met_X7_sign l D k  aM H.size Mestimate Munit Msort Mwidth Mmany Mreading Mvariance Mcovariance Mline Mformulas Mroot Mkind Mone Mother Msigns Mplace MleftOf MrightOf Mtype Msum Msign MsignAt Mproduct Mvalue Mslope Mexponent Mdrawn Mslopes Mfrom Mfactor Mthrown Mlength Mmodels Mopen Mat Mrows Mx r1 hc1) (cwV 0 hts gX7_begins_X7_sign rfl rfl rfl (by decide +kernel) ⟨Nat.le_of_ble_eq_true rfl, Nat.le_of_ble_eq_true rfl⟩) ⟨pw_blind, va_recv hK hP (ci := 7) (q0 := 0) rfl rfl, pw_start hP hK hD⟩ rfl rfl hl.1 rfl (lv_room (Nat.le_of_ble_eq_true rfl)) dX7_begins_1 ⟨Nat.zero_le _, Nat.zero_le _⟩) hS hFc (fun H1 locs hP1 hD1 hk1 hS => ?_)
    obtain ⟨hP, hD⟩ := vj_all hFc hP1 hD1
    clear hP1 hD1 hk1 hFc
    generalize H1 = H at hP hS ⊢
    refine lv_bipush (v := 45) hx hb dX7_begins_4 (by decide) ?_
    refine lv_icmp_eq (tgt := 18) hx hb dX7_begins_6 (by decide) (fun c2 => ?_) (fun c2 => ?_)
    · replace h := sf_t c2 h
      exact BH_18 _ ih _ hE27 _ hE60 _ _ _ _ _ h _ _ _ hP hD hS (lv_sub hl [0] rfl)
    · replace h := sf_f c2 h
      refine lv_aload_n hx hb dX7_begins_9 rfl (lv_at hl 0 rfl) ?_
      obtain ⟨r7, hc7, h⟩ := bnd1_inv h
      have hFc := va_free (wc := (wM k aM Mestimate Munit Msort Mwidth Mmany Mreading Mvariance Mcovariance Mline Mformulas Mroot Mkind Mone Mother Msigns Mplace MleftOf MrightOf Mtype Msum Msign MsignAt Mproduct Mvalue Mslope Mexponent Mdrawn Mslopes Mfrom Mfactor Mthrown Mlength Mmodels Mopen Mat Mrows Mx)) hD hS hA [0, 1, 2, 3, 4, 5, 6, 7, 8, 9, 10, 11, 12, 13, 14, 15, 16, 17, 18, 19, 20, 21, 22, 23, 24, 25, 26, 27, 28, 29, 30] rfl
      refine xc_i (va_runV (As := []) (rest := []) ⟨hx, hb, hml, hown, hts⟩ (met_X7_sign l D k  aM H.size Mestimate Munit Msort Mwidth Mmany Mreading Mvariance Mcovariance Mline Mformulas Mroot Mkind Mone Mother Msigns Mplace MleftOf MrightOf Mtype Msum Msign MsignAt Mproduct Mvalue Mslope Mexponent Mdrawn Mslopes Mfrom Mfactor Mthrown Mlength Mmodels Mopen Mat Mrows Mx r7 hc7) (cwV 0 hts gX7_begins_X7_sign rfl rfl rfl (by decide +kernel) ⟨Nat.le_of_ble_eq_true rfl, Nat.le_of_ble_eq_true rfl⟩) ⟨pw_blind, va_recv hK hP (ci := 7) (q0 := 0) rfl rfl, pw_start hP hK hD⟩ rfl rfl hl.1 rfl (lv_room (Nat.le_of_ble_eq_true rfl)) dX7_begins_10 ⟨Nat.zero_le _, Nat.zero_le _⟩) hS hFc (fun H1 locs hP1 hD1 hk1 hS => ?_)
      obtain ⟨hP, hD⟩ := vj_all hFc hP1 hD1
      clear hP1 hD1 hk1 hFc
      generalize H1 = H at hP hS ⊢
      refine lv_bipush (v := 40) hx hb dX7_begins_13 (by decide) ?_
      refine lv_icmp_ne (tgt := 60) hx hb dX7_begins_15 (by decide) (fun c8 => ?_) (fun c8 => ?_)
      · replace h := sf_f c8 h
        exact hE60 _ _ _ _ _ h _ _ _ hP hD hS (lv_sub hl [0] rfl)
      · replace h := sf_t c8 h
        exact BH_18 _ ih _ hE27 _ hE60 _ _ _ _ _ h _ _ _ hP hD hS (lv_sub hl [0] rfl)
  suffices main : ∀ (H : Heap) (locs : List Loc) (ls : Array Slot), va_P D vwCl (wM k aM Mestimate Munit Msort Mwidth Mmany Mreading Mvariance Mcovariance Mline Mformulas Mroot Mkind Mone Mother Msigns Mplace MleftOf MrightOf Mtype Msum Msign MsignAt Mproduct Mvalue Mslope Mexponent Mdrawn Mslopes Mfrom Mfactor Mthrown Mlength Mmodels Mopen Mat Mrows Mx) H → va_D A (wM k aM Mestimate Munit Msort Mwidth Mmany Mreading Mvariance Mcovariance Mline Mformulas Mroot Mkind Mone Mother Msigns Mplace MleftOf MrightOf Mtype Msum Msign MsignAt Mproduct Mvalue Mslope Mexponent Mdrawn Mslopes Mfrom Mfactor Mthrown Mlength Mmodels Mopen Mat Mrows Mx) → va_S A s.heap H locs → lv_has ls 1 [(0, .ref (aM 0))] → W p l e rmX7_begins s m args below meth c H locs 0 0 Q (F0 m 0 ls []) from main _ _ _ hP hD hS hl
  clear hP hD hS hl ls hAe
  intro H locs ls hP hD hS hl
  refine LH_0 _ (fun Mtype Msum Mproduct Mopen Mat h H locs ls hP hD hS hl => ?_) _ (fun Mtype Msum Mproduct Mopen Mat h H locs ls hP hD hS hl => ?_) _ _ _ _ _ _ h _ _ _ hP hD hS (lv_sub hl [0] rfl)
  · skip
    refine lv_iconst (v := 0) hx hb dX7_begins_27 (by decide) ?_
    have hP9 := hP
    have hD9 := hD
    have hS9 := hS
    subst hQ
    cases h
    exact W.zret hx hb hr rfl (fun t ht hW => ⟨⟨_, (), rfl, rfl, by rw [ht]; exact hP9, va_K.moved hW.alike hK, hD9⟩, hS9.F ht⟩) hS9.2.2 dX7_begins_28
  · skip
    refine lv_aload_n hx hb dX7_begins_60 rfl (lv_at hl 0 rfl) ?_
    obtain ⟨r9, hc9, h⟩ := bnd1_inv h
    have hFc := va_free (wc := (wM k aM Mestimate Munit Msort Mwidth Mmany Mreading Mvariance Mcovariance Mline Mformulas Mroot Mkind Mone Mother Msigns Mplace MleftOf MrightOf Mtype Msum Msign MsignAt Mproduct Mvalue Mslope Mexponent Mdrawn Mslopes Mfrom Mfactor Mthrown Mlength Mmodels Mopen Mat Mrows Mx)) hD hS hA [0, 1, 2, 3, 4, 5, 6, 7, 8, 9, 10, 11, 12, 13, 14, 15, 16, 17, 18, 19, 20, 21, 22, 23, 24, 25, 26, 27, 28, 29, 30] rfl
    refine xc_i (va_runV (As := []) (rest := []) ⟨hx, hb, hml, hown, hts⟩ (met_X7_sign l D k  aM H.size Mestimate Munit Msort Mwidth Mmany Mreading Mvariance Mcovariance Mline Mformulas Mroot Mkind Mone Mother Msigns Mplace MleftOf MrightOf Mtype Msum Msign MsignAt Mproduct Mvalue Mslope Mexponent Mdrawn Mslopes Mfrom Mfactor Mthrown Mlength Mmodels Mopen Mat Mrows Mx r9 hc9) (cwV 0 hts gX7_begins_X7_sign rfl rfl rfl (by decide +kernel) ⟨Nat.le_of_ble_eq_true rfl, Nat.le_of_ble_eq_true rfl⟩) ⟨pw_blind, va_recv hK hP (ci := 7) (q0 := 0) rfl rfl, pw_start hP hK hD⟩ rfl rfl hl.1 rfl (lv_room (Nat.le_of_ble_eq_true rfl)) dX7_begins_61 ⟨Nat.zero_le _, Nat.zero_le _⟩) hS hFc (fun H1 locs hP1 hD1 hk1 hS => ?_)
    obtain ⟨hP, hD⟩ := vj_all hFc hP1 hD1
    clear hP1 hD1 hk1 hFc
    generalize H1 = H at hP hS ⊢
    obtain ⟨r10, hc10, h⟩ := bnd1_inv h
    have hPc := hP.sub (ws' := ([] : va_W)) [] rfl
    have hDc := hD.sub (ws' := ([] : va_W)) [] rfl rfl
    have hFc := va_free (wc := ([] : va_W)) hD hS hA [] rfl
    refine xc_i (va_runS (As := [.int r9]) (rest := []) ⟨hx, hb, hml, hown, hts⟩ (met_X7_isDigit l D k  H.size r9 r10 hc10) (va_cwS 1 hts gX7_begins_X7_isDigit rfl rfl rfl (by decide +kernel) ⟨Nat.le_of_ble_eq_true rfl, Nat.le_of_ble_eq_true rfl⟩) ⟨pw_blind, pw_start hPc hK hDc⟩ rfl rfl hl.1 rfl (lv_room (Nat.le_of_ble_eq_true rfl)) dX7_begins_64 ⟨Nat.zero_le _, Nat.zero_le _⟩) hS hFc (fun H1 locs hP1 hD1 hk1 hS => ?_)
    obtain ⟨hP, hD⟩ := vj (ws' := (wM k aM Mestimate Munit Msort Mwidth Mmany Mreading Mvariance Mcovariance Mline Mformulas Mroot Mkind Mone Mother Msigns Mplace MleftOf MrightOf Mtype Msum Msign MsignAt Mproduct Mvalue Mslope Mexponent Mdrawn Mslopes Mfrom Mfactor Mthrown Mlength Mmodels Mopen Mat Mrows Mx)) (w1 := ([] : va_W)) hP hD [] [0, 1, 2, 3, 4, 5, 6, 7, 8, 9, 10, 11, 12, 13, 14, 15, 16, 17, 18, 19, 20, 21, 22, 23, 24, 25, 26, 27, 28, 29, 30] [0, 1, 2, 3, 4, 5, 6, 7, 8, 9, 10, 11, 12, 13, 14, 15, 16, 17, 18, 19, 20, 21, 22, 23, 24, 25, 26, 27, 28, 29, 30] rfl rfl rfl rfl rfl hk1 hFc hP1 hD1
    clear hP1 hD1 hk1 hFc
    generalize H1 = H at hP hS ⊢
    refine lv_if_ne (tgt := 84) hx hb dX7_begins_67 (by decide) (fun c11 => ?_) (fun c11 => ?_)
    · replace h := sf_f c11 h
      refine lv_iconst (v := 1) hx hb dX7_begins_84 (by decide) ?_
      refine lv_goto (tgt := 89) hx hb dX7_begins_85 (by decide) ?_
      have hP9 := hP
      have hD9 := hD
      have hS9 := hS
      subst hQ
      cases h
      exact W.zret hx hb hr rfl (fun t ht hW => ⟨⟨_, (), rfl, rfl, by rw [ht]; exact hP9, va_K.moved hW.alike hK, hD9⟩, hS9.F ht⟩) hS9.2.2 dX7_begins_89
    · replace h := sf_t c11 h
      refine lv_aload_n hx hb dX7_begins_70 rfl (lv_at hl 0 rfl) ?_
      obtain ⟨r12, hc12, h⟩ := bnd1_inv h
      have hFc := va_free (wc := (wM k aM Mestimate Munit Msort Mwidth Mmany Mreading Mvariance Mcovariance Mline Mformulas Mroot Mkind Mone Mother Msigns Mplace MleftOf MrightOf Mtype Msum Msign MsignAt Mproduct Mvalue Mslope Mexponent Mdrawn Mslopes Mfrom Mfactor Mthrown Mlength Mmodels Mopen Mat Mrows Mx)) hD hS hA [0, 1, 2, 3, 4, 5, 6, 7, 8, 9, 10, 11, 12, 13, 14, 15, 16, 17, 18, 19, 20, 21, 22, 23, 24, 25, 26, 27, 28, 29, 30] rfl
      refine xc_i (va_runV (As := []) (rest := []) ⟨hx, hb, hml, hown, hts⟩ (met_X7_sign l D k  aM H.size Mestimate Munit Msort Mwidth Mmany Mreading Mvariance Mcovariance Mline Mformulas Mroot Mkind Mone Mother Msigns Mplace MleftOf MrightOf Mtype Msum Msign MsignAt Mproduct Mvalue Mslope Mexponent Mdrawn Mslopes Mfrom Mfactor Mthrown Mlength Mmodels Mopen Mat Mrows Mx r12 hc12) (cwV 0 hts gX7_begins_X7_sign rfl rfl rfl (by decide +kernel) ⟨Nat.le_of_ble_eq_true rfl, Nat.le_of_ble_eq_true rfl⟩) ⟨pw_blind, va_recv hK hP (ci := 7) (q0 := 0) rfl rfl, pw_start hP hK hD⟩ rfl rfl hl.1 rfl (lv_room (Nat.le_of_ble_eq_true rfl)) dX7_begins_71 ⟨Nat.zero_le _, Nat.zero_le _⟩) hS hFc (fun H1 locs hP1 hD1 hk1 hS => ?_)
      obtain ⟨hP, hD⟩ := vj_all hFc hP1 hD1
      clear hP1 hD1 hk1 hFc
      generalize H1 = H at hP hS ⊢
      refine lv_bipush (v := 97) hx hb dX7_begins_74 (by decide) ?_
      refine lv_bipush (v := 102) hx hb dX7_begins_76 (by decide) ?_
      obtain ⟨r13, hc13, h⟩ := bnd1_inv h
      have hPc := hP.sub (ws' := ([] : va_W)) [] rfl
      have hDc := hD.sub (ws' := ([] : va_W)) [] rfl rfl
      have hFc := va_free (wc := ([] : va_W)) hD hS hA [] rfl
      refine xc_i (va_runS (As := [.int r12, .int 97, .int 102]) (rest := []) ⟨hx, hb, hml, hown, hts⟩ (met_X7_isIn l D k  H.size r12 97 102 r13 hc13) (va_cwS 3 hts gX7_begins_X7_isIn rfl rfl rfl (by decide +kernel) ⟨Nat.le_of_ble_eq_true rfl, Nat.le_of_ble_eq_true rfl⟩) ⟨pw_blind, pw_start hPc hK hDc⟩ rfl rfl hl.1 rfl (lv_room (Nat.le_of_ble_eq_true rfl)) dX7_begins_78 ⟨Nat.zero_le _, Nat.zero_le _⟩) hS hFc (fun H1 locs hP1 hD1 hk1 hS => ?_)
      obtain ⟨hP, hD⟩ := vj (ws' := (wM k aM Mestimate Munit Msort Mwidth Mmany Mreading Mvariance Mcovariance Mline Mformulas Mroot Mkind Mone Mother Msigns Mplace MleftOf MrightOf Mtype Msum Msign MsignAt Mproduct Mvalue Mslope Mexponent Mdrawn Mslopes Mfrom Mfactor Mthrown Mlength Mmodels Mopen Mat Mrows Mx)) (w1 := ([] : va_W)) hP hD [] [0, 1, 2, 3, 4, 5, 6, 7, 8, 9, 10, 11, 12, 13, 14, 15, 16, 17, 18, 19, 20, 21, 22, 23, 24, 25, 26, 27, 28, 29, 30] [0, 1, 2, 3, 4, 5, 6, 7, 8, 9, 10, 11, 12, 13, 14, 15, 16, 17, 18, 19, 20, 21, 22, 23, 24, 25, 26, 27, 28, 29, 30] rfl rfl rfl rfl rfl hk1 hFc hP1 hD1
      clear hP1 hD1 hk1 hFc
      generalize H1 = H at hP hS ⊢
      refine lv_if_eq (tgt := 88) hx hb dX7_begins_81 (by decide) (fun c14 => ?_) (fun c14 => ?_)
      · replace h := sf_t c14 h
        refine lv_iconst (v := 0) hx hb dX7_begins_88 (by decide) ?_
        have hP9 := hP
        have hD9 := hD
        have hS9 := hS
        subst hQ
        cases h
        exact W.zret hx hb hr rfl (fun t ht hW => ⟨⟨_, (), rfl, rfl, by rw [ht]; exact hP9, va_K.moved hW.alike hK, hD9⟩, hS9.F ht⟩) hS9.2.2 dX7_begins_89
      · replace h := sf_f c14 h
        refine lv_iconst (v := 1) hx hb dX7_begins_84 (by decide) ?_
        refine lv_goto (tgt := 89) hx hb dX7_begins_85 (by decide) ?_
        have hP9 := hP
        have hD9 := hD
        have hS9 := hS
        subst hQ
        cases h
        exact W.zret hx hb hr rfl (fun t ht hW => ⟨⟨_, (), rfl, rfl, by rw [ht]; exact hP9, va_K.moved hW.alike hK, hD9⟩, hS9.F ht⟩) hS9.2.2 dX7_begins_89
def fX7_power (v1 : Int32) (Mline : Nat → Int32) (Mformulas : Nat → Int32) (Mkind : Nat → Int32) (Mone : Nat → Int32) (Mother : Nat → Int32) (Mlength : Int32) (Mat : Int32) : Option (Int32 × (Nat → Int32) × (Nat → Int32) × (Nat → Int32) × (Nat → Int32) × Int32) := bnd1 (fX7_sign Mline Mlength Mat) (fun r1 => (if r1 = 94 then bnd1 (fX7_sign Mline Mlength (Mat + 1)) (fun r3 => bnd1 (fX7_isIn r3 48 52) (fun r4 => (if r4 = 0 then some ((-1), Mformulas, Mkind, Mone, Mother, Mat + 1) else gi (((Mat + 1) + 1) - 1) 64 (bnd5 (fX7_formula 5 v1 ((Mline (((Mat + 1) + 1) - 1).toNatClampNeg) - 48) Mformulas Mkind Mone Mother) (fun r7 formulas_7 kind_7 one_7 other_7 => some (r7, formulas_7, kind_7, one_7, other_7, (Mat + 1) + 1)))))) else some (v1, Mformulas, Mkind, Mone, Mother, Mat)))
abbrev rmX7_power : Room := { frames := 1, cells := 0, slots := 0, locals := 25 }
set_option maxHeartbeats 4000000 in
set_option maxRecDepth 100000 in
theorem met_X7_power (l : Launch) (D : va_G) (k : Nat → ClassId)  (aM : Nat → Nat) (sz : Nat) (Mestimate : Nat → Int32) (Munit : Nat → Int32) (Msort : Nat → Int32) (Mwidth : Nat → Int32) (Mmany : Nat → Int32) (Mreading : Nat → Int32) (Mvariance : Nat → Int32) (Mcovariance : Nat → Int32) (Mline : Nat → Int32) (Mformulas : Nat → Int32) (Mroot : Nat → Int32) (Mkind : Nat → Int32) (Mone : Nat → Int32) (Mother : Nat → Int32) (Msigns : Nat → Int32) (Mplace : Nat → Int32) (MleftOf : Nat → Int32) (MrightOf : Nat → Int32) (Mtype : Nat → Int32) (Msum : Nat → Int32) (Msign : Nat → Int32) (MsignAt : Nat → Int32) (Mproduct : Nat → Int32) (Mvalue : Nat → Int64) (Mslope : Nat → Int64) (Mexponent : Nat → Int32) (Mdrawn : Nat → Int32) (Mslopes : Nat → Int64) (Mfrom : Nat → Int32) (Mfactor : Nat → Int32) (Mthrown : Int32) (Mlength : Int32) (Mmodels : Int32) (Mopen : Int32) (Mat : Int32) (Mrows : Int32) (Mx : Int32) (v1 : Int32) (r : Int32) (RMformulas : Nat → Int32) (RMkind : Nat → Int32) (RMone : Nat → Int32) (RMother : Nat → Int32) (RMat : Int32) (h : fX7_power v1 Mline Mformulas Mkind Mone Mother Mlength Mat = some (r, RMformulas, RMkind, RMone, RMother, RMat)) : Met l yX7_power wsX7_power rmX7_power (va_Pc [.ref (aM 0), .int v1] (PreW D k (wM k aM Mestimate Munit Msort Mwidth Mmany Mreading Mvariance Mcovariance Mline Mformulas Mroot Mkind Mone Mother Msigns Mplace MleftOf MrightOf Mtype Msum Msign MsignAt Mproduct Mvalue Mslope Mexponent Mdrawn Mslopes Mfrom Mfactor Mthrown Mlength Mmodels Mopen Mat Mrows Mx) sz)) (va_Qi (fun r9 (_ : Unit) => r9 = r) (fun _ t => PostW D k (va_A (wM k aM Mestimate Munit Msort Mwidth Mmany Mreading Mvariance Mcovariance Mline Mformulas Mroot Mkind Mone Mother Msigns Mplace MleftOf MrightOf Mtype Msum Msign MsignAt Mproduct Mvalue Mslope Mexponent Mdrawn Mslopes Mfrom Mfactor Mthrown Mlength Mmodels Mopen Mat Mrows Mx) sz) (wM k aM Mestimate Munit Msort Mwidth Mmany Mreading Mvariance Mcovariance Mline RMformulas Mroot RMkind RMone RMother Msigns Mplace MleftOf MrightOf Mtype Msum Msign MsignAt Mproduct Mvalue Mslope Mexponent Mdrawn Mslopes Mfrom Mfactor Mthrown Mlength Mmodels Mopen RMat Mrows Mx) t) (va_A (wM k aM Mestimate Munit Msort Mwidth Mmany Mreading Mvariance Mcovariance Mline Mformulas Mroot Mkind Mone Mother Msigns Mplace MleftOf MrightOf Mtype Msum Msign MsignAt Mproduct Mvalue Mslope Mexponent Mdrawn Mslopes Mfrom Mfactor Mthrown Mlength Mmodels Mopen Mat Mrows Mx) sz)) 0 0 (va_A (wM k aM Mestimate Munit Msort Mwidth Mmany Mreading Mvariance Mcovariance Mline Mformulas Mroot Mkind Mone Mother Msigns Mplace MleftOf MrightOf Mtype Msum Msign MsignAt Mproduct Mvalue Mslope Mexponent Mdrawn Mslopes Mfrom Mfactor Mthrown Mlength Mmodels Mopen Mat Mrows Mx) sz) := by
  refine Met.ofW (cc := cX7_power) (maxL := 2) (ret := (some .int)) (by decide) rfl ?_
  intro p e s m args below meth c s₁ B hml hv
  obtain ⟨hav, hsz, hP, hK, hD0⟩ := hv
  have hx := B.exec
  have hb := B.bytes
  have hr := B.returns
  have hts := atoms_spec (ws := wsX7_power) B.pre
  have hown : s.vm.findClass RX7 = some m.cls := findClass_of_methodNamed B.named
  have hlocks := B.notSynchronized
  subst hsz
  have hD := hD0.self (sz := s.heap.size)
  clear hD0
  generalize hAe : va_A (wM k aM Mestimate Munit Msort Mwidth Mmany Mreading Mvariance Mcovariance Mline Mformulas Mroot Mkind Mone Mother Msigns Mplace MleftOf MrightOf Mtype Msum Msign MsignAt Mproduct Mvalue Mslope Mexponent Mdrawn Mslopes Mfrom Mfactor Mthrown Mlength Mmodels Mopen Mat Mrows Mx) s.heap.size = A at hD ⊢
  have hA : ∀ q : Nat, s.heap.size ≤ q → A q := fun q h => by rw [← hAe]; exact Or.inr h
  have hS : va_S A s.heap s.heap [] := va_S.rf
  have hl := lv_entry ([.ref (aM 0), .int v1]) (n := 2) (Nat.le_of_ble_eq_true rfl)
  rw [show entryFrame m args 2 = entryFrame m ([.ref (aM 0), .int v1] : List Value).toArray 2 from by rw [hav], lg_entry_eq]
  generalize (lg_sl ([.ref (aM 0), .int v1]) ++ List.replicate (2 - (lg_sl ([.ref (aM 0), .int v1])).length) Slot.unset).toArray = ls at hl ⊢
  replace hl : lv_has ls 2 [(0, .ref (aM 0)), (1, .int v1)] := hl
  have f34 := hts (.fieldLink RX7 34 "UncertainBookModel" "line" "[I") (by decide +kernel)
  have f139 := hts (.fieldLink RX7 139 "UncertainBookModel" "at" "I") (by decide +kernel)
  have iX7 : ∀ w ∈ u_ws RX7 TX7 37, w ∈ wsX7_power := by decide +kernel
  refine w_q (fun Q hQ => ?_)
  unfold fX7_power at h
  show W p l e rmX7_power s m args below meth c s.heap [] 0 0 Q (F0 m 0 ls [])
  suffices main : ∀ (H : Heap) (locs : List Loc) (ls : Array Slot), va_P D vwCl (wM k aM Mestimate Munit Msort Mwidth Mmany Mreading Mvariance Mcovariance Mline Mformulas Mroot Mkind Mone Mother Msigns Mplace MleftOf MrightOf Mtype Msum Msign MsignAt Mproduct Mvalue Mslope Mexponent Mdrawn Mslopes Mfrom Mfactor Mthrown Mlength Mmodels Mopen Mat Mrows Mx) H → va_D A (wM k aM Mestimate Munit Msort Mwidth Mmany Mreading Mvariance Mcovariance Mline Mformulas Mroot Mkind Mone Mother Msigns Mplace MleftOf MrightOf Mtype Msum Msign MsignAt Mproduct Mvalue Mslope Mexponent Mdrawn Mslopes Mfrom Mfactor Mthrown Mlength Mmodels Mopen Mat Mrows Mx) → va_S A s.heap H locs → lv_has ls 2 [(0, .ref (aM 0)), (1, .int v1)] → W p l e rmX7_power s m args below meth c H locs 0 0 Q (F0 m 0 ls []) from main _ _ _ hP hD hS hl
  clear hP hD hS hl ls hAe
  intro H locs ls hP hD hS hl
  refine lv_aload_n hx hb dX7_power_0 rfl (lv_at hl 0 rfl) ?_
  obtain ⟨r1, hc1, h⟩ := bnd1_inv h
  have hFc := va_free (wc := (wM k aM Mestimate Munit Msort Mwidth Mmany Mreading Mvariance Mcovariance Mline Mformulas Mroot Mkind Mone Mother Msigns Mplace MleftOf MrightOf Mtype Msum Msign MsignAt Mproduct Mvalue Mslope Mexponent Mdrawn Mslopes Mfrom Mfactor Mthrown Mlength Mmodels Mopen Mat Mrows Mx)) hD hS hA [0, 1, 2, 3, 4, 5, 6, 7, 8, 9, 10, 11, 12, 13, 14, 15, 16, 17, 18, 19, 20, 21, 22, 23, 24, 25, 26, 27, 28, 29, 30] rfl
  refine xc_i (va_runV (As := []) (rest := []) ⟨hx, hb, hml, hown, hts⟩ (met_X7_sign l D k  aM H.size Mestimate Munit Msort Mwidth Mmany Mreading Mvariance Mcovariance Mline Mformulas Mroot Mkind Mone Mother Msigns Mplace MleftOf MrightOf Mtype Msum Msign MsignAt Mproduct Mvalue Mslope Mexponent Mdrawn Mslopes Mfrom Mfactor Mthrown Mlength Mmodels Mopen Mat Mrows Mx r1 hc1) (cwV 0 hts gX7_power_X7_sign rfl rfl rfl (by decide +kernel) ⟨Nat.le_of_ble_eq_true rfl, Nat.le_of_ble_eq_true rfl⟩) ⟨pw_blind, va_recv hK hP (ci := 7) (q0 := 0) rfl rfl, pw_start hP hK hD⟩ rfl rfl hl.1 rfl (lv_room (Nat.le_of_ble_eq_true rfl)) dX7_power_1 ⟨Nat.zero_le _, Nat.zero_le _⟩) hS hFc (fun H1 locs hP1 hD1 hk1 hS => ?_)
  obtain ⟨hP, hD⟩ := vj_all hFc hP1 hD1
  clear hP1 hD1 hk1 hFc
  generalize H1 = H at hP hS ⊢
  refine lv_bipush (v := 94) hx hb dX7_power_4 (by decide) ?_
  refine lv_icmp_eq (tgt := 11) hx hb dX7_power_6 (by decide) (fun c2 => ?_) (fun c2 => ?_)
  · replace h := sf_t c2 h
    refine lv_aload_n hx hb dX7_power_11 rfl (lv_at hl 0 rfl) ?_
    refine lv_dup hx hb dX7_power_12 rfl ?_
    refine va_get (D := D) (ci := 7) (v := .int Mat) (C := RX7) (T := TX7) (N := 37) hx hb hts iX7 hown hK hP 0 rfl rfl 27 (by decide) f139 (fun _ h9 => h9) rfl dX7_power_13 ?_
    refine lv_iconst (v := 1) hx hb dX7_power_16 (by decide) ?_
    refine lv_iadd hx hb dX7_power_17 ?_
    refine va_put (D := D) (ci := 7) (v := .int (Mat + 1)) (ty := .int) (C := RX7) (T := TX7) (N := 37) hx hb hts iX7 tyX7 tyX7_ok nmX7 hown hK hP hD hS 0 rfl rfl 27 (by decide) f139 (fun _ h9 => h9) rfl (by decide +kernel) rfl rfl (Nat.le_of_ble_eq_true rfl) dX7_power_18 (fun H locs hP hD hS => ?_)
    replace hP : va_P D vwCl (wM k aM Mestimate Munit Msort Mwidth Mmany Mreading Mvariance Mcovariance Mline Mformulas Mroot Mkind Mone Mother Msigns Mplace MleftOf MrightOf Mtype Msum Msign MsignAt Mproduct Mvalue Mslope Mexponent Mdrawn Mslopes Mfrom Mfactor Mthrown Mlength Mmodels Mopen (Mat + 1) Mrows Mx) H := hP
    replace hD : va_D A (wM k aM Mestimate Munit Msort Mwidth Mmany Mreading Mvariance Mcovariance Mline Mformulas Mroot Mkind Mone Mother Msigns Mplace MleftOf MrightOf Mtype Msum Msign MsignAt Mproduct Mvalue Mslope Mexponent Mdrawn Mslopes Mfrom Mfactor Mthrown Mlength Mmodels Mopen (Mat + 1) Mrows Mx) := hD
    refine lv_aload_n hx hb dX7_power_21 rfl (lv_at hl 0 rfl) ?_
    obtain ⟨r3, hc3, h⟩ := bnd1_inv h
    have hFc := va_free (wc := (wM k aM Mestimate Munit Msort Mwidth Mmany Mreading Mvariance Mcovariance Mline Mformulas Mroot Mkind Mone Mother Msigns Mplace MleftOf MrightOf Mtype Msum Msign MsignAt Mproduct Mvalue Mslope Mexponent Mdrawn Mslopes Mfrom Mfactor Mthrown Mlength Mmodels Mopen (Mat + 1) Mrows Mx)) hD hS hA [0, 1, 2, 3, 4, 5, 6, 7, 8, 9, 10, 11, 12, 13, 14, 15, 16, 17, 18, 19, 20, 21, 22, 23, 24, 25, 26, 27, 28, 29, 30] rfl
    refine xc_i (va_runV (As := []) (rest := []) ⟨hx, hb, hml, hown, hts⟩ (met_X7_sign l D k  aM H.size Mestimate Munit Msort Mwidth Mmany Mreading Mvariance Mcovariance Mline Mformulas Mroot Mkind Mone Mother Msigns Mplace MleftOf MrightOf Mtype Msum Msign MsignAt Mproduct Mvalue Mslope Mexponent Mdrawn Mslopes Mfrom Mfactor Mthrown Mlength Mmodels Mopen (Mat + 1) Mrows Mx r3 hc3) (cwV 0 hts gX7_power_X7_sign rfl rfl rfl (by decide +kernel) ⟨Nat.le_of_ble_eq_true rfl, Nat.le_of_ble_eq_true rfl⟩) ⟨pw_blind, va_recv hK hP (ci := 7) (q0 := 0) rfl rfl, pw_start hP hK hD⟩ rfl rfl hl.1 rfl (lv_room (Nat.le_of_ble_eq_true rfl)) dX7_power_22 ⟨Nat.zero_le _, Nat.zero_le _⟩) hS hFc (fun H1 locs hP1 hD1 hk1 hS => ?_)
    obtain ⟨hP, hD⟩ := vj_all hFc hP1 hD1
    clear hP1 hD1 hk1 hFc
    generalize H1 = H at hP hS ⊢
    refine lv_bipush (v := 48) hx hb dX7_power_25 (by decide) ?_
    refine lv_bipush (v := 52) hx hb dX7_power_27 (by decide) ?_
    obtain ⟨r4, hc4, h⟩ := bnd1_inv h
    have hPc := hP.sub (ws' := ([] : va_W)) [] rfl
    have hDc := hD.sub (ws' := ([] : va_W)) [] rfl rfl
    have hFc := va_free (wc := ([] : va_W)) hD hS hA [] rfl
    refine xc_i (va_runS (As := [.int r3, .int 48, .int 52]) (rest := []) ⟨hx, hb, hml, hown, hts⟩ (met_X7_isIn l D k  H.size r3 48 52 r4 hc4) (va_cwS 3 hts gX7_power_X7_isIn rfl rfl rfl (by decide +kernel) ⟨Nat.le_of_ble_eq_true rfl, Nat.le_of_ble_eq_true rfl⟩) ⟨pw_blind, pw_start hPc hK hDc⟩ rfl rfl hl.1 rfl (lv_room (Nat.le_of_ble_eq_true rfl)) dX7_power_29 ⟨Nat.zero_le _, Nat.zero_le _⟩) hS hFc (fun H1 locs hP1 hD1 hk1 hS => ?_)
    obtain ⟨hP, hD⟩ := vj (ws' := (wM k aM Mestimate Munit Msort Mwidth Mmany Mreading Mvariance Mcovariance Mline Mformulas Mroot Mkind Mone Mother Msigns Mplace MleftOf MrightOf Mtype Msum Msign MsignAt Mproduct Mvalue Mslope Mexponent Mdrawn Mslopes Mfrom Mfactor Mthrown Mlength Mmodels Mopen (Mat + 1) Mrows Mx)) (w1 := ([] : va_W)) hP hD [] [0, 1, 2, 3, 4, 5, 6, 7, 8, 9, 10, 11, 12, 13, 14, 15, 16, 17, 18, 19, 20, 21, 22, 23, 24, 25, 26, 27, 28, 29, 30] [0, 1, 2, 3, 4, 5, 6, 7, 8, 9, 10, 11, 12, 13, 14, 15, 16, 17, 18, 19, 20, 21, 22, 23, 24, 25, 26, 27, 28, 29, 30] rfl rfl rfl rfl rfl hk1 hFc hP1 hD1
    clear hP1 hD1 hk1 hFc
    generalize H1 = H at hP hS ⊢
    refine lv_if_ne (tgt := 37) hx hb dX7_power_32 (by decide) (fun c5 => ?_) (fun c5 => ?_)
    · replace h := sf_f c5 h
      refine lv_aload_n hx hb dX7_power_37 rfl (lv_at hl 0 rfl) ?_
      refine lv_dup hx hb dX7_power_38 rfl ?_
      refine va_get (D := D) (ci := 7) (v := .int (Mat + 1)) (C := RX7) (T := TX7) (N := 37) hx hb hts iX7 hown hK hP 0 rfl rfl 27 (by decide) f139 (fun _ h9 => h9) rfl dX7_power_39 ?_
      refine lv_iconst (v := 1) hx hb dX7_power_42 (by decide) ?_
      refine lv_iadd hx hb dX7_power_43 ?_
      refine va_put (D := D) (ci := 7) (v := .int ((Mat + 1) + 1)) (ty := .int) (C := RX7) (T := TX7) (N := 37) hx hb hts iX7 tyX7 tyX7_ok nmX7 hown hK hP hD hS 0 rfl rfl 27 (by decide) f139 (fun _ h9 => h9) rfl (by decide +kernel) rfl rfl (Nat.le_of_ble_eq_true rfl) dX7_power_44 (fun H locs hP hD hS => ?_)
      replace hP : va_P D vwCl (wM k aM Mestimate Munit Msort Mwidth Mmany Mreading Mvariance Mcovariance Mline Mformulas Mroot Mkind Mone Mother Msigns Mplace MleftOf MrightOf Mtype Msum Msign MsignAt Mproduct Mvalue Mslope Mexponent Mdrawn Mslopes Mfrom Mfactor Mthrown Mlength Mmodels Mopen ((Mat + 1) + 1) Mrows Mx) H := hP
      replace hD : va_D A (wM k aM Mestimate Munit Msort Mwidth Mmany Mreading Mvariance Mcovariance Mline Mformulas Mroot Mkind Mone Mother Msigns Mplace MleftOf MrightOf Mtype Msum Msign MsignAt Mproduct Mvalue Mslope Mexponent Mdrawn Mslopes Mfrom Mfactor Mthrown Mlength Mmodels Mopen ((Mat + 1) + 1) Mrows Mx) := hD
      refine lv_aload_n hx hb dX7_power_47 rfl (lv_at hl 0 rfl) ?_
      refine lv_iconst (v := 5) hx hb dX7_power_48 (by decide) ?_
      refine lv_iload_n hx hb dX7_power_49 rfl (lv_at hl 1 rfl) ?_
      refine lv_aload_n hx hb dX7_power_50 rfl (lv_at hl 0 rfl) ?_
      refine va_get (D := D) (ci := 7) (v := .ref (aM 9)) (C := RX7) (T := TX7) (N := 37) hx hb hts iX7 hown hK hP 0 rfl rfl 9 (by decide) f34 (fun _ h9 => h9) rfl dX7_power_51 ?_
      refine lv_aload_n hx hb dX7_power_54 rfl (lv_at hl 0 rfl) ?_
      refine va_get (D := D) (ci := 7) (v := .int ((Mat + 1) + 1)) (C := RX7) (T := TX7) (N := 37) hx hb hts iX7 hown hK hP 0 rfl rfl 27 (by decide) f139 (fun _ h9 => h9) rfl dX7_power_55 ?_
      refine lv_iconst (v := 1) hx hb dX7_power_58 (by decide) ?_
      refine lv_isub hx hb dX7_power_59 ?_
      obtain ⟨hi6, h⟩ := gi_inv h
      refine va_iald hx hb hK hP 9 0 rfl rfl hi6 dX7_power_60 ?_
      refine lv_bipush (v := 48) hx hb dX7_power_61 (by decide) ?_
      refine lv_isub hx hb dX7_power_63 ?_
      obtain ⟨r7, formulas_7, kind_7, one_7, other_7, hc7, h⟩ := bnd5_inv h
      have hFc := va_free (wc := (wM k aM Mestimate Munit Msort Mwidth Mmany Mreading Mvariance Mcovariance Mline Mformulas Mroot Mkind Mone Mother Msigns Mplace MleftOf MrightOf Mtype Msum Msign MsignAt Mproduct Mvalue Mslope Mexponent Mdrawn Mslopes Mfrom Mfactor Mthrown Mlength Mmodels Mopen ((Mat + 1) + 1) Mrows Mx)) hD hS hA [0, 1, 2, 3, 4, 5, 6, 7, 8, 9, 10, 11, 12, 13, 14, 15, 16, 17, 18, 19, 20, 21, 22, 23, 24, 25, 26, 27, 28, 29, 30] rfl
      refine xc_i (va_runV (As := [.int 5, .int v1, .int ((Mline (((Mat + 1) + 1) - 1).toNatClampNeg) - 48)]) (rest := []) ⟨hx, hb, hml, hown, hts⟩ (met_X7_formula l D k  aM H.size Mestimate Munit Msort Mwidth Mmany Mreading Mvariance Mcovariance Mline Mformulas Mroot Mkind Mone Mother Msigns Mplace MleftOf MrightOf Mtype Msum Msign MsignAt Mproduct Mvalue Mslope Mexponent Mdrawn Mslopes Mfrom Mfactor Mthrown Mlength Mmodels Mopen ((Mat + 1) + 1) Mrows Mx 5 v1 ((Mline (((Mat + 1) + 1) - 1).toNatClampNeg) - 48) r7 formulas_7 kind_7 one_7 other_7 hc7) (cwV 3 hts gX7_power_X7_formula rfl rfl rfl (by decide +kernel) ⟨Nat.le_of_ble_eq_true rfl, Nat.le_of_ble_eq_true rfl⟩) ⟨pw_blind, va_recv hK hP (ci := 7) (q0 := 0) rfl rfl, pw_start hP hK hD⟩ rfl rfl hl.1 rfl (lv_room (Nat.le_of_ble_eq_true rfl)) dX7_power_64 ⟨Nat.zero_le _, Nat.zero_le _⟩) hS hFc (fun H1 locs hP1 hD1 hk1 hS => ?_)
      obtain ⟨hP, hD⟩ := vj_all hFc hP1 hD1
      clear hP1 hD1 hk1 hFc
      generalize H1 = H at hP hS ⊢
      have hP9 := hP
      have hD9 := hD
      have hS9 := hS
      subst hQ
      cases h
      exact W.iret hx hb hr (fun t ht hW => ⟨⟨_, (), rfl, rfl, by rw [ht]; exact hP9, va_K.moved hW.alike hK, hD9⟩, hS9.F ht⟩) hS9.2.2 dX7_power_67
    · replace h := sf_t c5 h
      refine lv_iconst (v := -1) hx hb dX7_power_35 (by decide) ?_
      have hP9 := hP
      have hD9 := hD
      have hS9 := hS
      subst hQ
      cases h
      exact W.iret hx hb hr (fun t ht hW => ⟨⟨_, (), rfl, rfl, by rw [ht]; exact hP9, va_K.moved hW.alike hK, hD9⟩, hS9.F ht⟩) hS9.2.2 dX7_power_36
  · replace h := sf_f c2 h
    refine lv_iload_n hx hb dX7_power_9 rfl (lv_at hl 1 rfl) ?_
    have hP9 := hP
    have hD9 := hD
    have hS9 := hS
    subst hQ
    cases h
    exact W.iret hx hb hr (fun t ht hW => ⟨⟨_, (), rfl, rfl, by rw [ht]; exact hP9, va_K.moved hW.alike hK, hD9⟩, hS9.F ht⟩) hS9.2.2 dX7_power_10
def BX7_follows_58 (Mline : Nat → Int32) (Mlength : Int32) (Mopen : Int32)  (Mformulas : Nat → Int32) (Mkind : Nat → Int32) (Mone : Nat → Int32) (Mother : Nat → Int32) (Msigns : Nat → Int32) (Mplace : Nat → Int32) (MleftOf : Nat → Int32) (MrightOf : Nat → Int32) (Msum : Nat → Int32) (Msign : Nat → Int32) (MsignAt : Nat → Int32) (Mproduct : Nat → Int32) (Mat : Int32) : Option (Int32 × (Nat → Int32) × (Nat → Int32) × (Nat → Int32) × (Nat → Int32) × (Nat → Int32) × (Nat → Int32) × (Nat → Int32) × (Nat → Int32) × (Nat → Int32) × (Nat → Int32) × (Nat → Int32) × (Nat → Int32) × Int32) := some (1, Mformulas, Mkind, Mone, Mother, Msigns, Mplace, MleftOf, MrightOf, Msum, Msign, MsignAt, Mproduct, Mat + 1)
def BX7_follows_25 (Mline : Nat → Int32) (Mlength : Int32) (Mopen : Int32)  (v1 : Int32) (Mformulas : Nat → Int32) (Mkind : Nat → Int32) (Mone : Nat → Int32) (Mother : Nat → Int32) (Msigns : Nat → Int32) (Mplace : Nat → Int32) (MleftOf : Nat → Int32) (MrightOf : Nat → Int32) (Msum : Nat → Int32) (Msign : Nat → Int32) (MsignAt : Nat → Int32) (Mproduct : Nat → Int32) (Mat : Int32) : Option (Int32 × (Nat → Int32) × (Nat → Int32) × (Nat → Int32) × (Nat → Int32) × (Nat → Int32) × (Nat → Int32) × (Nat → Int32) × (Nat → Int32) × (Nat → Int32) × (Nat → Int32) × (Nat → Int32) × (Nat → Int32) × Int32) := (if v1 = 42 then BX7_follows_58 Mline Mlength Mopen Mformulas Mkind Mone Mother Msigns Mplace MleftOf MrightOf Msum Msign MsignAt Mproduct Mat else bnd10 (fX7_adds Mformulas Mkind Mone Mother Msigns Mplace MleftOf MrightOf Msum Msign MsignAt Mproduct Mopen) (fun formulas_4 kind_4 one_4 other_4 signs_4 place_4 leftOf_4 rightOf_4 sum_4 product_4 => gi Mopen 9 (gi Mopen 9 (BX7_follows_58 Mline Mlength Mopen formulas_4 kind_4 one_4 other_4 signs_4 place_4 leftOf_4 rightOf_4 sum_4 (upd Msign (Mopen.toNatClampNeg) v1) (upd MsignAt (Mopen.toNatClampNeg) Mat) product_4 Mat))))
def fX7_follows (Mline : Nat → Int32) (Mformulas : Nat → Int32) (Mkind : Nat → Int32) (Mone : Nat → Int32) (Mother : Nat → Int32) (Msigns : Nat → Int32) (Mplace : Nat → Int32) (MleftOf : Nat → Int32) (MrightOf : Nat → Int32) (Msum : Nat → Int32) (Msign : Nat → Int32) (MsignAt : Nat → Int32) (Mproduct : Nat → Int32) (Mlength : Int32) (Mopen : Int32) (Mat : Int32) : Option (Int32 × (Nat → Int32) × (Nat → Int32) × (Nat → Int32) × (Nat → Int32) × (Nat → Int32) × (Nat → Int32) × (Nat → Int32) × (Nat → Int32) × (Nat → Int32) × (Nat → Int32) × (Nat → Int32) × (Nat → Int32) × Int32) := bnd1 (fX7_sign Mline Mlength Mat) (fun r1 => (if r1 = 42 then BX7_follows_25 Mline Mlength Mopen r1 Mformulas Mkind Mone Mother Msigns Mplace MleftOf MrightOf Msum Msign MsignAt Mproduct Mat else (if r1 = 43 then BX7_follows_25 Mline Mlength Mopen r1 Mformulas Mkind Mone Mother Msigns Mplace MleftOf MrightOf Msum Msign MsignAt Mproduct Mat else (if r1 = 45 then BX7_follows_25 Mline Mlength Mopen r1 Mformulas Mkind Mone Mother Msigns Mplace MleftOf MrightOf Msum Msign MsignAt Mproduct Mat else some (0, Mformulas, Mkind, Mone, Mother, Msigns, Mplace, MleftOf, MrightOf, Msum, Msign, MsignAt, Mproduct, Mat)))))
abbrev rmX7_follows : Room := { frames := 2, cells := 0, slots := 0, locals := 46 }
set_option maxHeartbeats 4000000 in
set_option maxRecDepth 100000 in
theorem met_X7_follows (l : Launch) (D : va_G) (k : Nat → ClassId)  (aM : Nat → Nat) (sz : Nat) (Mestimate : Nat → Int32) (Munit : Nat → Int32) (Msort : Nat → Int32) (Mwidth : Nat → Int32) (Mmany : Nat → Int32) (Mreading : Nat → Int32) (Mvariance : Nat → Int32) (Mcovariance : Nat → Int32) (Mline : Nat → Int32) (Mformulas : Nat → Int32) (Mroot : Nat → Int32) (Mkind : Nat → Int32) (Mone : Nat → Int32) (Mother : Nat → Int32) (Msigns : Nat → Int32) (Mplace : Nat → Int32) (MleftOf : Nat → Int32) (MrightOf : Nat → Int32) (Mtype : Nat → Int32) (Msum : Nat → Int32) (Msign : Nat → Int32) (MsignAt : Nat → Int32) (Mproduct : Nat → Int32) (Mvalue : Nat → Int64) (Mslope : Nat → Int64) (Mexponent : Nat → Int32) (Mdrawn : Nat → Int32) (Mslopes : Nat → Int64) (Mfrom : Nat → Int32) (Mfactor : Nat → Int32) (Mthrown : Int32) (Mlength : Int32) (Mmodels : Int32) (Mopen : Int32) (Mat : Int32) (Mrows : Int32) (Mx : Int32)  (r : Int32) (RMformulas : Nat → Int32) (RMkind : Nat → Int32) (RMone : Nat → Int32) (RMother : Nat → Int32) (RMsigns : Nat → Int32) (RMplace : Nat → Int32) (RMleftOf : Nat → Int32) (RMrightOf : Nat → Int32) (RMsum : Nat → Int32) (RMsign : Nat → Int32) (RMsignAt : Nat → Int32) (RMproduct : Nat → Int32) (RMat : Int32) (h : fX7_follows Mline Mformulas Mkind Mone Mother Msigns Mplace MleftOf MrightOf Msum Msign MsignAt Mproduct Mlength Mopen Mat = some (r, RMformulas, RMkind, RMone, RMother, RMsigns, RMplace, RMleftOf, RMrightOf, RMsum, RMsign, RMsignAt, RMproduct, RMat)) : Met l yX7_follows wsX7_follows rmX7_follows (va_Pc [.ref (aM 0)] (PreW D k (wM k aM Mestimate Munit Msort Mwidth Mmany Mreading Mvariance Mcovariance Mline Mformulas Mroot Mkind Mone Mother Msigns Mplace MleftOf MrightOf Mtype Msum Msign MsignAt Mproduct Mvalue Mslope Mexponent Mdrawn Mslopes Mfrom Mfactor Mthrown Mlength Mmodels Mopen Mat Mrows Mx) sz)) (va_Qi (fun r9 (_ : Unit) => r9 = r) (fun _ t => PostW D k (va_A (wM k aM Mestimate Munit Msort Mwidth Mmany Mreading Mvariance Mcovariance Mline Mformulas Mroot Mkind Mone Mother Msigns Mplace MleftOf MrightOf Mtype Msum Msign MsignAt Mproduct Mvalue Mslope Mexponent Mdrawn Mslopes Mfrom Mfactor Mthrown Mlength Mmodels Mopen Mat Mrows Mx) sz) (wM k aM Mestimate Munit Msort Mwidth Mmany Mreading Mvariance Mcovariance Mline RMformulas Mroot RMkind RMone RMother RMsigns RMplace RMleftOf RMrightOf Mtype RMsum RMsign RMsignAt RMproduct Mvalue Mslope Mexponent Mdrawn Mslopes Mfrom Mfactor Mthrown Mlength Mmodels Mopen RMat Mrows Mx) t) (va_A (wM k aM Mestimate Munit Msort Mwidth Mmany Mreading Mvariance Mcovariance Mline Mformulas Mroot Mkind Mone Mother Msigns Mplace MleftOf MrightOf Mtype Msum Msign MsignAt Mproduct Mvalue Mslope Mexponent Mdrawn Mslopes Mfrom Mfactor Mthrown Mlength Mmodels Mopen Mat Mrows Mx) sz)) 0 0 (va_A (wM k aM Mestimate Munit Msort Mwidth Mmany Mreading Mvariance Mcovariance Mline Mformulas Mroot Mkind Mone Mother Msigns Mplace MleftOf MrightOf Mtype Msum Msign MsignAt Mproduct Mvalue Mslope Mexponent Mdrawn Mslopes Mfrom Mfactor Mthrown Mlength Mmodels Mopen Mat Mrows Mx) sz) := by
  refine Met.ofW (cc := cX7_follows) (maxL := 2) (ret := (some .boolean)) (by decide) rfl ?_
  intro p e s m args below meth c s₁ B hml hv
  obtain ⟨hav, hsz, hP, hK, hD0⟩ := hv
  have hx := B.exec
  have hb := B.bytes
  have hr := B.returns
  have hts := atoms_spec (ws := wsX7_follows) B.pre
  have hown : s.vm.findClass RX7 = some m.cls := findClass_of_methodNamed B.named
  have hlocks := B.notSynchronized
  subst hsz
  have hD := hD0.self (sz := s.heap.size)
  clear hD0
  generalize hAe : va_A (wM k aM Mestimate Munit Msort Mwidth Mmany Mreading Mvariance Mcovariance Mline Mformulas Mroot Mkind Mone Mother Msigns Mplace MleftOf MrightOf Mtype Msum Msign MsignAt Mproduct Mvalue Mslope Mexponent Mdrawn Mslopes Mfrom Mfactor Mthrown Mlength Mmodels Mopen Mat Mrows Mx) s.heap.size = A at hD ⊢
  have hA : ∀ q : Nat, s.heap.size ≤ q → A q := fun q h => by rw [← hAe]; exact Or.inr h
  have hS : va_S A s.heap s.heap [] := va_S.rf
  have hl := lv_entry ([.ref (aM 0)]) (n := 2) (Nat.le_of_ble_eq_true rfl)
  rw [show entryFrame m args 2 = entryFrame m ([.ref (aM 0)] : List Value).toArray 2 from by rw [hav], lg_entry_eq]
  generalize (lg_sl ([.ref (aM 0)]) ++ List.replicate (2 - (lg_sl ([.ref (aM 0)])).length) Slot.unset).toArray = ls at hl ⊢
  replace hl : lv_has ls 2 [(0, .ref (aM 0))] := hl
  have f70 := hts (.fieldLink RX7 70 "UncertainBookModel" "sign" "[I") (by decide +kernel)
  have f73 := hts (.fieldLink RX7 73 "UncertainBookModel" "signAt" "[I") (by decide +kernel)
  have f139 := hts (.fieldLink RX7 139 "UncertainBookModel" "at" "I") (by decide +kernel)
  have f142 := hts (.fieldLink RX7 142 "UncertainBookModel" "open" "I") (by decide +kernel)
  have iX7 : ∀ w ∈ u_ws RX7 TX7 37, w ∈ wsX7_follows := by decide +kernel
  refine w_q (fun Q hQ => ?_)
  unfold fX7_follows at h
  show W p l e rmX7_follows s m args below meth c s.heap [] 0 0 Q (F0 m 0 ls [])
  have BH_58 : ∀ (Mformulas : Nat → Int32) (Mkind : Nat → Int32) (Mone : Nat → Int32) (Mother : Nat → Int32) (Msigns : Nat → Int32) (Mplace : Nat → Int32) (MleftOf : Nat → Int32) (MrightOf : Nat → Int32) (Msum : Nat → Int32) (Msign : Nat → Int32) (MsignAt : Nat → Int32) (Mproduct : Nat → Int32) (Mat : Int32), BX7_follows_58 Mline Mlength Mopen Mformulas Mkind Mone Mother Msigns Mplace MleftOf MrightOf Msum Msign MsignAt Mproduct Mat = some (r, RMformulas, RMkind, RMone, RMother, RMsigns, RMplace, RMleftOf, RMrightOf, RMsum, RMsign, RMsignAt, RMproduct, RMat) → ∀ (H : Heap) (locs : List Loc) (ls : Array Slot), va_P D vwCl (wM k aM Mestimate Munit Msort Mwidth Mmany Mreading Mvariance Mcovariance Mline Mformulas Mroot Mkind Mone Mother Msigns Mplace MleftOf MrightOf Mtype Msum Msign MsignAt Mproduct Mvalue Mslope Mexponent Mdrawn Mslopes Mfrom Mfactor Mthrown Mlength Mmodels Mopen Mat Mrows Mx) H → va_D A (wM k aM Mestimate Munit Msort Mwidth Mmany Mreading Mvariance Mcovariance Mline Mformulas Mroot Mkind Mone Mother Msigns Mplace MleftOf MrightOf Mtype Msum Msign MsignAt Mproduct Mvalue Mslope Mexponent Mdrawn Mslopes Mfrom Mfactor Mthrown Mlength Mmodels Mopen Mat Mrows Mx) → va_S A s.heap H locs → lv_has ls 2 [(0, .ref (aM 0))] → W p l e rmX7_follows s m args below meth c H locs 0 0 Q (F0 m 58 ls []) := by
    intro  Mformulas Mkind Mone Mother Msigns Mplace MleftOf MrightOf Msum Msign MsignAt Mproduct Mat h H locs ls hP hD hS hl
    unfold BX7_follows_58 at h
    refine lv_aload_n hx hb dX7_follows_58 rfl (lv_at hl 0 rfl) ?_
    refine lv_dup hx hb dX7_follows_59 rfl ?_
    refine va_get (D := D) (ci := 7) (v := .int Mat) (C := RX7) (T := TX7) (N := 37) hx hb hts iX7 hown hK hP 0 rfl rfl 27 (by decide) f139 (fun _ h9 => h9) rfl dX7_follows_60 ?_
    refine lv_iconst (v := 1) hx hb dX7_follows_63 (by decide) ?_
    refine lv_iadd hx hb dX7_follows_64 ?_
    refine va_put (D := D) (ci := 7) (v := .int (Mat + 1)) (ty := .int) (C := RX7) (T := TX7) (N := 37) hx hb hts iX7 tyX7 tyX7_ok nmX7 hown hK hP hD hS 0 rfl rfl 27 (by decide) f139 (fun _ h9 => h9) rfl (by decide +kernel) rfl rfl (Nat.le_of_ble_eq_true rfl) dX7_follows_65 (fun H locs hP hD hS => ?_)
    replace hP : va_P D vwCl (wM k aM Mestimate Munit Msort Mwidth Mmany Mreading Mvariance Mcovariance Mline Mformulas Mroot Mkind Mone Mother Msigns Mplace MleftOf MrightOf Mtype Msum Msign MsignAt Mproduct Mvalue Mslope Mexponent Mdrawn Mslopes Mfrom Mfactor Mthrown Mlength Mmodels Mopen (Mat + 1) Mrows Mx) H := hP
    replace hD : va_D A (wM k aM Mestimate Munit Msort Mwidth Mmany Mreading Mvariance Mcovariance Mline Mformulas Mroot Mkind Mone Mother Msigns Mplace MleftOf MrightOf Mtype Msum Msign MsignAt Mproduct Mvalue Mslope Mexponent Mdrawn Mslopes Mfrom Mfactor Mthrown Mlength Mmodels Mopen (Mat + 1) Mrows Mx) := hD
    refine lv_iconst (v := 1) hx hb dX7_follows_68 (by decide) ?_
    have hP9 := hP
    have hD9 := hD
    have hS9 := hS
    subst hQ
    simp only [Option.some.injEq, Prod.mk.injEq] at h
    obtain ⟨rfl, rfl, rfl, rfl, rfl, rfl, rfl, rfl, rfl, rfl, rfl, rfl, rfl, rfl⟩ := h
    exact W.zret hx hb hr rfl (fun t ht hW => ⟨⟨_, (), rfl, rfl, by rw [ht]; exact hP9, va_K.moved hW.alike hK, hD9⟩, hS9.F ht⟩) hS9.2.2 dX7_follows_69
  have BH_25 : ∀ (v1 : Int32) (Mformulas : Nat → Int32) (Mkind : Nat → Int32) (Mone : Nat → Int32) (Mother : Nat → Int32) (Msigns : Nat → Int32) (Mplace : Nat → Int32) (MleftOf : Nat → Int32) (MrightOf : Nat → Int32) (Msum : Nat → Int32) (Msign : Nat → Int32) (MsignAt : Nat → Int32) (Mproduct : Nat → Int32) (Mat : Int32), BX7_follows_25 Mline Mlength Mopen v1 Mformulas Mkind Mone Mother Msigns Mplace MleftOf MrightOf Msum Msign MsignAt Mproduct Mat = some (r, RMformulas, RMkind, RMone, RMother, RMsigns, RMplace, RMleftOf, RMrightOf, RMsum, RMsign, RMsignAt, RMproduct, RMat) → ∀ (H : Heap) (locs : List Loc) (ls : Array Slot), va_P D vwCl (wM k aM Mestimate Munit Msort Mwidth Mmany Mreading Mvariance Mcovariance Mline Mformulas Mroot Mkind Mone Mother Msigns Mplace MleftOf MrightOf Mtype Msum Msign MsignAt Mproduct Mvalue Mslope Mexponent Mdrawn Mslopes Mfrom Mfactor Mthrown Mlength Mmodels Mopen Mat Mrows Mx) H → va_D A (wM k aM Mestimate Munit Msort Mwidth Mmany Mreading Mvariance Mcovariance Mline Mformulas Mroot Mkind Mone Mother Msigns Mplace MleftOf MrightOf Mtype Msum Msign MsignAt Mproduct Mvalue Mslope Mexponent Mdrawn Mslopes Mfrom Mfactor Mthrown Mlength Mmodels Mopen Mat Mrows Mx) → va_S A s.heap H locs → lv_has ls 2 [(0, .ref (aM 0)), (1, .int v1)] → W p l e rmX7_follows s m args below meth c H locs 0 0 Q (F0 m 25 ls []) := by
    intro  v1 Mformulas Mkind Mone Mother Msigns Mplace MleftOf MrightOf Msum Msign MsignAt Mproduct Mat h H locs ls hP hD hS hl
    unfold BX7_follows_25 at h
    refine lv_iload_n hx hb dX7_follows_25 rfl (lv_at hl 1 rfl) ?_
    refine lv_bipush (v := 42) hx hb dX7_follows_26 (by decide) ?_
    refine lv_icmp_eq (tgt := 58) hx hb dX7_follows_28 (by decide) (fun c3 => ?_) (fun c3 => ?_)
    · replace h := sf_t c3 h
      exact BH_58  _ _ _ _ _ _ _ _ _ _ _ _ _ h _ _ _ hP hD hS (lv_sub hl [0] rfl)
    · replace h := sf_f c3 h
      refine lv_aload_n hx hb dX7_follows_31 rfl (lv_at hl 0 rfl) ?_
      obtain ⟨formulas_4, kind_4, one_4, other_4, signs_4, place_4, leftOf_4, rightOf_4, sum_4, product_4, hc4, h⟩ := bnd10_inv h
      have hFc := va_free (wc := (wM k aM Mestimate Munit Msort Mwidth Mmany Mreading Mvariance Mcovariance Mline Mformulas Mroot Mkind Mone Mother Msigns Mplace MleftOf MrightOf Mtype Msum Msign MsignAt Mproduct Mvalue Mslope Mexponent Mdrawn Mslopes Mfrom Mfactor Mthrown Mlength Mmodels Mopen Mat Mrows Mx)) hD hS hA [0, 1, 2, 3, 4, 5, 6, 7, 8, 9, 10, 11, 12, 13, 14, 15, 16, 17, 18, 19, 20, 21, 22, 23, 24, 25, 26, 27, 28, 29, 30] rfl
      refine xc_v (va_runV (As := []) (rest := []) ⟨hx, hb, hml, hown, hts⟩ (met_X7_adds l D k  aM H.size Mestimate Munit Msort Mwidth Mmany Mreading Mvariance Mcovariance Mline Mformulas Mroot Mkind Mone Mother Msigns Mplace MleftOf MrightOf Mtype Msum Msign MsignAt Mproduct Mvalue Mslope Mexponent Mdrawn Mslopes Mfrom Mfactor Mthrown Mlength Mmodels Mopen Mat Mrows Mx formulas_4 kind_4 one_4 other_4 signs_4 place_4 leftOf_4 rightOf_4 sum_4 product_4 hc4) (cwV 0 hts gX7_follows_X7_adds rfl rfl rfl (by decide +kernel) ⟨Nat.le_of_ble_eq_true rfl, Nat.le_of_ble_eq_true rfl⟩) ⟨pw_blind, va_recv hK hP (ci := 7) (q0 := 0) rfl rfl, pw_start hP hK hD⟩ rfl rfl hl.1 rfl (lv_room (Nat.le_of_ble_eq_true rfl)) dX7_follows_32 ⟨Nat.zero_le _, Nat.zero_le _⟩) hS hFc (fun H1 locs hP1 hD1 hk1 hS => ?_)
      obtain ⟨hP, hD⟩ := vj_all hFc hP1 hD1
      clear hP1 hD1 hk1 hFc
      generalize H1 = H at hP hS ⊢
      refine lv_aload_n hx hb dX7_follows_35 rfl (lv_at hl 0 rfl) ?_
      refine va_get (D := D) (ci := 7) (v := .ref (aM 21)) (C := RX7) (T := TX7) (N := 37) hx hb hts iX7 hown hK hP 0 rfl rfl 24 (by decide) f70 (fun _ h9 => h9) rfl dX7_follows_36 ?_
      refine lv_aload_n hx hb dX7_follows_39 rfl (lv_at hl 0 rfl) ?_
      refine va_get (D := D) (ci := 7) (v := .int Mopen) (C := RX7) (T := TX7) (N := 37) hx hb hts iX7 hown hK hP 0 rfl rfl 21 (by decide) f142 (fun _ h9 => h9) rfl dX7_follows_40 ?_
      refine lv_iload_n hx hb dX7_follows_43 rfl (lv_at hl 1 rfl) ?_
      obtain ⟨hi5, h⟩ := gi_inv h
      refine va_iast hx hb hK hP hD hS 21 0 rfl rfl hi5 dX7_follows_44 (fun H locs hP hD hS => ?_)
      replace hP : va_P D vwCl (wM k aM Mestimate Munit Msort Mwidth Mmany Mreading Mvariance Mcovariance Mline formulas_4 Mroot kind_4 one_4 other_4 signs_4 place_4 leftOf_4 rightOf_4 Mtype sum_4 (upd Msign (Mopen.toNatClampNeg) v1) MsignAt product_4 Mvalue Mslope Mexponent Mdrawn Mslopes Mfrom Mfactor Mthrown Mlength Mmodels Mopen Mat Mrows Mx) H := hP
      replace hD : va_D A (wM k aM Mestimate Munit Msort Mwidth Mmany Mreading Mvariance Mcovariance Mline formulas_4 Mroot kind_4 one_4 other_4 signs_4 place_4 leftOf_4 rightOf_4 Mtype sum_4 (upd Msign (Mopen.toNatClampNeg) v1) MsignAt product_4 Mvalue Mslope Mexponent Mdrawn Mslopes Mfrom Mfactor Mthrown Mlength Mmodels Mopen Mat Mrows Mx) := hD
      refine lv_aload_n hx hb dX7_follows_45 rfl (lv_at hl 0 rfl) ?_
      refine va_get (D := D) (ci := 7) (v := .ref (aM 22)) (C := RX7) (T := TX7) (N := 37) hx hb hts iX7 hown hK hP 0 rfl rfl 25 (by decide) f73 (fun _ h9 => h9) rfl dX7_follows_46 ?_
      refine lv_aload_n hx hb dX7_follows_49 rfl (lv_at hl 0 rfl) ?_
      refine va_get (D := D) (ci := 7) (v := .int Mopen) (C := RX7) (T := TX7) (N := 37) hx hb hts iX7 hown hK hP 0 rfl rfl 21 (by decide) f142 (fun _ h9 => h9) rfl dX7_follows_50 ?_
      refine lv_aload_n hx hb dX7_follows_53 rfl (lv_at hl 0 rfl) ?_
      refine va_get (D := D) (ci := 7) (v := .int Mat) (C := RX7) (T := TX7) (N := 37) hx hb hts iX7 hown hK hP 0 rfl rfl 27 (by decide) f139 (fun _ h9 => h9) rfl dX7_follows_54 ?_
      obtain ⟨hi6, h⟩ := gi_inv h
      refine va_iast hx hb hK hP hD hS 22 0 rfl rfl hi6 dX7_follows_57 (fun H locs hP hD hS => ?_)
      replace hP : va_P D vwCl (wM k aM Mestimate Munit Msort Mwidth Mmany Mreading Mvariance Mcovariance Mline formulas_4 Mroot kind_4 one_4 other_4 signs_4 place_4 leftOf_4 rightOf_4 Mtype sum_4 (upd Msign (Mopen.toNatClampNeg) v1) (upd MsignAt (Mopen.toNatClampNeg) Mat) product_4 Mvalue Mslope Mexponent Mdrawn Mslopes Mfrom Mfactor Mthrown Mlength Mmodels Mopen Mat Mrows Mx) H := hP
      replace hD : va_D A (wM k aM Mestimate Munit Msort Mwidth Mmany Mreading Mvariance Mcovariance Mline formulas_4 Mroot kind_4 one_4 other_4 signs_4 place_4 leftOf_4 rightOf_4 Mtype sum_4 (upd Msign (Mopen.toNatClampNeg) v1) (upd MsignAt (Mopen.toNatClampNeg) Mat) product_4 Mvalue Mslope Mexponent Mdrawn Mslopes Mfrom Mfactor Mthrown Mlength Mmodels Mopen Mat Mrows Mx) := hD
      exact BH_58  _ _ _ _ _ _ _ _ _ _ _ _ _ h _ _ _ hP hD hS (lv_sub hl [0] rfl)
  suffices main : ∀ (H : Heap) (locs : List Loc) (ls : Array Slot), va_P D vwCl (wM k aM Mestimate Munit Msort Mwidth Mmany Mreading Mvariance Mcovariance Mline Mformulas Mroot Mkind Mone Mother Msigns Mplace MleftOf MrightOf Mtype Msum Msign MsignAt Mproduct Mvalue Mslope Mexponent Mdrawn Mslopes Mfrom Mfactor Mthrown Mlength Mmodels Mopen Mat Mrows Mx) H → va_D A (wM k aM Mestimate Munit Msort Mwidth Mmany Mreading Mvariance Mcovariance Mline Mformulas Mroot Mkind Mone Mother Msigns Mplace MleftOf MrightOf Mtype Msum Msign MsignAt Mproduct Mvalue Mslope Mexponent Mdrawn Mslopes Mfrom Mfactor Mthrown Mlength Mmodels Mopen Mat Mrows Mx) → va_S A s.heap H locs → lv_has ls 2 [(0, .ref (aM 0))] → W p l e rmX7_follows s m args below meth c H locs 0 0 Q (F0 m 0 ls []) from main _ _ _ hP hD hS hl
  clear hP hD hS hl ls hAe
  intro H locs ls hP hD hS hl
  refine lv_aload_n hx hb dX7_follows_0 rfl (lv_at hl 0 rfl) ?_
  obtain ⟨r1, hc1, h⟩ := bnd1_inv h
  have hFc := va_free (wc := (wM k aM Mestimate Munit Msort Mwidth Mmany Mreading Mvariance Mcovariance Mline Mformulas Mroot Mkind Mone Mother Msigns Mplace MleftOf MrightOf Mtype Msum Msign MsignAt Mproduct Mvalue Mslope Mexponent Mdrawn Mslopes Mfrom Mfactor Mthrown Mlength Mmodels Mopen Mat Mrows Mx)) hD hS hA [0, 1, 2, 3, 4, 5, 6, 7, 8, 9, 10, 11, 12, 13, 14, 15, 16, 17, 18, 19, 20, 21, 22, 23, 24, 25, 26, 27, 28, 29, 30] rfl
  refine xc_i (va_runV (As := []) (rest := []) ⟨hx, hb, hml, hown, hts⟩ (met_X7_sign l D k  aM H.size Mestimate Munit Msort Mwidth Mmany Mreading Mvariance Mcovariance Mline Mformulas Mroot Mkind Mone Mother Msigns Mplace MleftOf MrightOf Mtype Msum Msign MsignAt Mproduct Mvalue Mslope Mexponent Mdrawn Mslopes Mfrom Mfactor Mthrown Mlength Mmodels Mopen Mat Mrows Mx r1 hc1) (cwV 0 hts gX7_follows_X7_sign rfl rfl rfl (by decide +kernel) ⟨Nat.le_of_ble_eq_true rfl, Nat.le_of_ble_eq_true rfl⟩) ⟨pw_blind, va_recv hK hP (ci := 7) (q0 := 0) rfl rfl, pw_start hP hK hD⟩ rfl rfl hl.1 rfl (lv_room (Nat.le_of_ble_eq_true rfl)) dX7_follows_1 ⟨Nat.zero_le _, Nat.zero_le _⟩) hS hFc (fun H1 locs hP1 hD1 hk1 hS => ?_)
  obtain ⟨hP, hD⟩ := vj_all hFc hP1 hD1
  clear hP1 hD1 hk1 hFc
  generalize H1 = H at hP hS ⊢
  refine lv_istore_n (lv' := [(1, .int r1), (0, .ref (aM 0))]) hx hb dX7_follows_4 rfl hl (by decide) rfl (fun ls hl => ?_)
  refine lv_iload_n hx hb dX7_follows_5 rfl (lv_at hl 0 rfl) ?_
  refine lv_bipush (v := 42) hx hb dX7_follows_6 (by decide) ?_
  refine lv_icmp_eq (tgt := 25) hx hb dX7_follows_8 (by decide) (fun c2 => ?_) (fun c2 => ?_)
  · replace h := sf_t c2 h
    exact BH_25  _ _ _ _ _ _ _ _ _ _ _ _ _ _ h _ _ _ hP hD hS (lv_sub hl [1, 0] rfl)
  · replace h := sf_f c2 h
    refine lv_iload_n hx hb dX7_follows_11 rfl (lv_at hl 0 rfl) ?_
    refine lv_bipush (v := 43) hx hb dX7_follows_12 (by decide) ?_
    refine lv_icmp_eq (tgt := 25) hx hb dX7_follows_14 (by decide) (fun c7 => ?_) (fun c7 => ?_)
    · replace h := sf_t c7 h
      exact BH_25  _ _ _ _ _ _ _ _ _ _ _ _ _ _ h _ _ _ hP hD hS (lv_sub hl [1, 0] rfl)
    · replace h := sf_f c7 h
      refine lv_iload_n hx hb dX7_follows_17 rfl (lv_at hl 0 rfl) ?_
      refine lv_bipush (v := 45) hx hb dX7_follows_18 (by decide) ?_
      refine lv_icmp_eq (tgt := 25) hx hb dX7_follows_20 (by decide) (fun c8 => ?_) (fun c8 => ?_)
      · replace h := sf_t c8 h
        exact BH_25  _ _ _ _ _ _ _ _ _ _ _ _ _ _ h _ _ _ hP hD hS (lv_sub hl [1, 0] rfl)
      · replace h := sf_f c8 h
        refine lv_iconst (v := 0) hx hb dX7_follows_23 (by decide) ?_
        have hP9 := hP
        have hD9 := hD
        have hS9 := hS
        subst hQ
        simp only [Option.some.injEq, Prod.mk.injEq] at h
        obtain ⟨rfl, rfl, rfl, rfl, rfl, rfl, rfl, rfl, rfl, rfl, rfl, rfl, rfl, rfl⟩ := h
        exact W.zret hx hb hr rfl (fun t ht hW => ⟨⟨_, (), rfl, rfl, by rw [ht]; exact hP9, va_K.moved hW.alike hK, hD9⟩, hS9.F ht⟩) hS9.2.2 dX7_follows_24
def BX7_reads_168 (Mline : Nat → Int32) (Mlength : Int32) (K : Int32 → Int32 → (Nat → Int32) → (Nat → Int32) → (Nat → Int32) → (Nat → Int32) → (Nat → Int32) → (Nat → Int32) → (Nat → Int32) → (Nat → Int32) → (Nat → Int32) → (Nat → Int32) → (Nat → Int32) → (Nat → Int32) → (Nat → Int32) → Int32 → Int32 → Option (Int32 × (Nat → Int32) × (Nat → Int32) × (Nat → Int32) × (Nat → Int32) × (Nat → Int32) × (Nat → Int32) × (Nat → Int32) × (Nat → Int32) × (Nat → Int32) × (Nat → Int32) × (Nat → Int32) × (Nat → Int32) × (Nat → Int32) × Int32 × Int32)) (E241 : Int32 → (Nat → Int32) → (Nat → Int32) → (Nat → Int32) → (Nat → Int32) → (Nat → Int32) → (Nat → Int32) → (Nat → Int32) → (Nat → Int32) → (Nat → Int32) → (Nat → Int32) → (Nat → Int32) → (Nat → Int32) → (Nat → Int32) → Int32 → Int32 → Option (Int32 × (Nat → Int32) × (Nat → Int32) × (Nat → Int32) × (Nat → Int32) × (Nat → Int32) × (Nat → Int32) × (Nat → Int32) × (Nat → Int32) × (Nat → Int32) × (Nat → Int32) × (Nat → Int32) × (Nat → Int32) × (Nat → Int32) × Int32 × Int32)) (v1 : Int32) (s1 : Int32) (s2 : Int32) (Mformulas : Nat → Int32) (Mkind : Nat → Int32) (Mone : Nat → Int32) (Mother : Nat → Int32) (Msigns : Nat → Int32) (Mplace : Nat → Int32) (MleftOf : Nat → Int32) (MrightOf : Nat → Int32) (Mtype : Nat → Int32) (Msum : Nat → Int32) (Msign : Nat → Int32) (MsignAt : Nat → Int32) (Mproduct : Nat → Int32) (Mopen : Int32) (Mat : Int32) : Option (Int32 × (Nat → Int32) × (Nat → Int32) × (Nat → Int32) × (Nat → Int32) × (Nat → Int32) × (Nat → Int32) × (Nat → Int32) × (Nat → Int32) × (Nat → Int32) × (Nat → Int32) × (Nat → Int32) × (Nat → Int32) × (Nat → Int32) × Int32 × Int32) := gi s1 9 (bnd1 (fX7_sign Mline Mlength Mat) (fun r19 => (if r19 = 41 then (if Mopen ≤ 0 then K v1 0 Mformulas Mkind Mone Mother Msigns Mplace MleftOf MrightOf Mtype Msum Msign MsignAt (upd Mproduct (s1.toNatClampNeg) s2) Mopen Mat else bnd10 (fX7_adds Mformulas Mkind Mone Mother Msigns Mplace MleftOf MrightOf Msum Msign MsignAt (upd Mproduct (s1.toNatClampNeg) s2) Mopen) (fun formulas_22 kind_22 one_22 other_22 signs_22 place_22 leftOf_22 rightOf_22 sum_22 product_22 => gi Mopen 9 (bnd6 (fX7_power (sum_22 Mopen.toNatClampNeg) Mline formulas_22 kind_22 one_22 other_22 Mlength (Mat + 1)) (fun r24 formulas_24 kind_24 one_24 other_24 at__24 => (if r24 = ((-1)) then K r24 0 formulas_24 kind_24 one_24 other_24 signs_22 place_22 leftOf_22 rightOf_22 Mtype sum_22 Msign MsignAt product_22 (Mopen - 1) at__24 else K r24 1 formulas_24 kind_24 one_24 other_24 signs_22 place_22 leftOf_22 rightOf_22 Mtype sum_22 Msign MsignAt product_22 (Mopen - 1) at__24))))) else K v1 0 Mformulas Mkind Mone Mother Msigns Mplace MleftOf MrightOf Mtype Msum Msign MsignAt (upd Mproduct (s1.toNatClampNeg) s2) Mopen Mat)))
def LX7_reads_74 (Mline : Nat → Int32) (Mlength : Int32) (E241 : Int32 → (Nat → Int32) → (Nat → Int32) → (Nat → Int32) → (Nat → Int32) → (Nat → Int32) → (Nat → Int32) → (Nat → Int32) → (Nat → Int32) → (Nat → Int32) → (Nat → Int32) → (Nat → Int32) → (Nat → Int32) → (Nat → Int32) → Int32 → Int32 → Option (Int32 × (Nat → Int32) × (Nat → Int32) × (Nat → Int32) × (Nat → Int32) × (Nat → Int32) × (Nat → Int32) × (Nat → Int32) × (Nat → Int32) × (Nat → Int32) × (Nat → Int32) × (Nat → Int32) × (Nat → Int32) × (Nat → Int32) × Int32 × Int32)) : Nat → Int32 → Int32 → (Nat → Int32) → (Nat → Int32) → (Nat → Int32) → (Nat → Int32) → (Nat → Int32) → (Nat → Int32) → (Nat → Int32) → (Nat → Int32) → (Nat → Int32) → (Nat → Int32) → (Nat → Int32) → (Nat → Int32) → (Nat → Int32) → Int32 → Int32 → Option (Int32 × (Nat → Int32) × (Nat → Int32) × (Nat → Int32) × (Nat → Int32) × (Nat → Int32) × (Nat → Int32) × (Nat → Int32) × (Nat → Int32) × (Nat → Int32) × (Nat → Int32) × (Nat → Int32) × (Nat → Int32) × (Nat → Int32) × Int32 × Int32)
  | 0, _, _, _, _, _, _, _, _, _, _, _, _, _, _, _, _, _ => none
  | fuel + 1, v1, v2, Mformulas, Mkind, Mone, Mother, Msigns, Mplace, MleftOf, MrightOf, Mtype, Msum, Msign, MsignAt, Mproduct, Mopen, Mat => (if v2 = 0 then E241 v1 Mformulas Mkind Mone Mother Msigns Mplace MleftOf MrightOf Mtype Msum Msign MsignAt Mproduct Mopen Mat else gi Mopen 9 ((if (Mtype Mopen.toNatClampNeg) = 1 then bnd5 (fX7_formula 6 v1 0 Mformulas Mkind Mone Mother) (fun r26 formulas_26 kind_26 one_26 other_26 => bnd6 (fX7_power r26 Mline formulas_26 kind_26 one_26 other_26 Mlength Mat) (fun r27 formulas_27 kind_27 one_27 other_27 at__27 => (if r27 = ((-1)) then LX7_reads_74 Mline Mlength E241 fuel r27 0 formulas_27 kind_27 one_27 other_27 Msigns Mplace MleftOf MrightOf Mtype Msum Msign MsignAt Mproduct (Mopen - 1) at__27 else LX7_reads_74 Mline Mlength E241 fuel r27 1 formulas_27 kind_27 one_27 other_27 Msigns Mplace MleftOf MrightOf Mtype Msum Msign MsignAt Mproduct (Mopen - 1) at__27))) else gi Mopen 9 ((if (Mproduct Mopen.toNatClampNeg) = ((-1)) then BX7_reads_168 Mline Mlength (LX7_reads_74 Mline Mlength E241 fuel) E241 v1 Mopen v1 Mformulas Mkind Mone Mother Msigns Mplace MleftOf MrightOf Mtype Msum Msign MsignAt Mproduct Mopen Mat else gi Mopen 9 (bnd5 (fX7_formula 4 (Mproduct Mopen.toNatClampNeg) v1 Mformulas Mkind Mone Mother) (fun r17 formulas_17 kind_17 one_17 other_17 => BX7_reads_168 Mline Mlength (LX7_reads_74 Mline Mlength E241 fuel) E241 v1 Mopen r17 formulas_17 kind_17 one_17 other_17 Msigns Mplace MleftOf MrightOf Mtype Msum Msign MsignAt Mproduct Mopen Mat)))))))
def LX7_reads_47 (Mline : Nat → Int32) (Mlength : Int32) (E246 : (Nat → Int32) → (Nat → Int32) → (Nat → Int32) → (Nat → Int32) → (Nat → Int32) → (Nat → Int32) → (Nat → Int32) → (Nat → Int32) → (Nat → Int32) → (Nat → Int32) → (Nat → Int32) → (Nat → Int32) → (Nat → Int32) → Int32 → Int32 → Option (Int32 × (Nat → Int32) × (Nat → Int32) × (Nat → Int32) × (Nat → Int32) × (Nat → Int32) × (Nat → Int32) × (Nat → Int32) × (Nat → Int32) × (Nat → Int32) × (Nat → Int32) × (Nat → Int32) × (Nat → Int32) × (Nat → Int32) × Int32 × Int32)) (E259 : (Nat → Int32) → (Nat → Int32) → (Nat → Int32) → (Nat → Int32) → (Nat → Int32) → (Nat → Int32) → (Nat → Int32) → (Nat → Int32) → (Nat → Int32) → (Nat → Int32) → (Nat → Int32) → (Nat → Int32) → (Nat → Int32) → Int32 → Int32 → Option (Int32 × (Nat → Int32) × (Nat → Int32) × (Nat → Int32) × (Nat → Int32) × (Nat → Int32) × (Nat → Int32) × (Nat → Int32) × (Nat → Int32) × (Nat → Int32) × (Nat → Int32) × (Nat → Int32) × (Nat → Int32) × (Nat → Int32) × Int32 × Int32)) (E288 : (Nat → Int32) → (Nat → Int32) → (Nat → Int32) → (Nat → Int32) → (Nat → Int32) → (Nat → Int32) → (Nat → Int32) → (Nat → Int32) → (Nat → Int32) → (Nat → Int32) → (Nat → Int32) → (Nat → Int32) → (Nat → Int32) → Int32 → Int32 → Option (Int32 × (Nat → Int32) × (Nat → Int32) × (Nat → Int32) × (Nat → Int32) × (Nat → Int32) × (Nat → Int32) × (Nat → Int32) × (Nat → Int32) × (Nat → Int32) × (Nat → Int32) × (Nat → Int32) × (Nat → Int32) × (Nat → Int32) × Int32 × Int32)) (E293 : (Nat → Int32) → (Nat → Int32) → (Nat → Int32) → (Nat → Int32) → (Nat → Int32) → (Nat → Int32) → (Nat → Int32) → (Nat → Int32) → (Nat → Int32) → (Nat → Int32) → (Nat → Int32) → (Nat → Int32) → (Nat → Int32) → Int32 → Int32 → Option (Int32 × (Nat → Int32) × (Nat → Int32) × (Nat → Int32) × (Nat → Int32) × (Nat → Int32) × (Nat → Int32) × (Nat → Int32) × (Nat → Int32) × (Nat → Int32) × (Nat → Int32) × (Nat → Int32) × (Nat → Int32) × (Nat → Int32) × Int32 × Int32)) : Nat → (Nat → Int32) → (Nat → Int32) → (Nat → Int32) → (Nat → Int32) → (Nat → Int32) → (Nat → Int32) → (Nat → Int32) → (Nat → Int32) → (Nat → Int32) → (Nat → Int32) → (Nat → Int32) → (Nat → Int32) → (Nat → Int32) → Int32 → Int32 → Option (Int32 × (Nat → Int32) × (Nat → Int32) × (Nat → Int32) × (Nat → Int32) × (Nat → Int32) × (Nat → Int32) × (Nat → Int32) × (Nat → Int32) × (Nat → Int32) × (Nat → Int32) × (Nat → Int32) × (Nat → Int32) × (Nat → Int32) × Int32 × Int32)
  | 0, _, _, _, _, _, _, _, _, _, _, _, _, _, _, _ => none
  | fuel + 1, Mformulas, Mkind, Mone, Mother, Msigns, Mplace, MleftOf, MrightOf, Mtype, Msum, Msign, MsignAt, Mproduct, Mopen, Mat => bnd6 (fX7_begins Mline Mtype Msum Mproduct Mlength Mopen Mat) (fun r6 type__6 sum_6 product_6 open__6 at__6 => (if r6 = 0 then E293 Mformulas Mkind Mone Mother Msigns Mplace MleftOf MrightOf type__6 sum_6 Msign MsignAt product_6 open__6 at__6 else bnd6 (fX7_atom Mline Mformulas Mkind Mone Mother Mlength at__6) (fun r8 formulas_8 kind_8 one_8 other_8 at__8 => bnd6 (fX7_power r8 Mline formulas_8 kind_8 one_8 other_8 Mlength at__8) (fun r9 formulas_9 kind_9 one_9 other_9 at__9 => (if r9 = ((-1)) then LX7_reads_74 Mline Mlength (fun (v1 : Int32) (Mformulas : Nat → Int32) (Mkind : Nat → Int32) (Mone : Nat → Int32) (Mother : Nat → Int32) (Msigns : Nat → Int32) (Mplace : Nat → Int32) (MleftOf : Nat → Int32) (MrightOf : Nat → Int32) (Mtype : Nat → Int32) (Msum : Nat → Int32) (Msign : Nat → Int32) (MsignAt : Nat → Int32) (Mproduct : Nat → Int32) (Mopen : Int32) (Mat : Int32) => (if v1 = ((-1)) then E246 Mformulas Mkind Mone Mother Msigns Mplace MleftOf MrightOf Mtype Msum Msign MsignAt Mproduct Mopen Mat else (if Mat = Mlength then E259 Mformulas Mkind Mone Mother Msigns Mplace MleftOf MrightOf Mtype Msum Msign MsignAt Mproduct Mopen Mat else bnd14 (fX7_follows Mline Mformulas Mkind Mone Mother Msigns Mplace MleftOf MrightOf Msum Msign MsignAt Mproduct Mlength Mopen Mat) (fun r31 formulas_31 kind_31 one_31 other_31 signs_31 place_31 leftOf_31 rightOf_31 sum_31 sign_31 signAt_31 product_31 at__31 => (if r31 = 0 then E288 formulas_31 kind_31 one_31 other_31 signs_31 place_31 leftOf_31 rightOf_31 Mtype sum_31 sign_31 signAt_31 product_31 Mopen at__31 else LX7_reads_47 Mline Mlength E246 E259 E288 E293 fuel formulas_31 kind_31 one_31 other_31 signs_31 place_31 leftOf_31 rightOf_31 Mtype sum_31 sign_31 signAt_31 product_31 Mopen at__31))))) 1000 r9 0 formulas_9 kind_9 one_9 other_9 Msigns Mplace MleftOf MrightOf type__6 sum_6 Msign MsignAt product_6 open__6 at__9 else LX7_reads_74 Mline Mlength (fun (v1 : Int32) (Mformulas : Nat → Int32) (Mkind : Nat → Int32) (Mone : Nat → Int32) (Mother : Nat → Int32) (Msigns : Nat → Int32) (Mplace : Nat → Int32) (MleftOf : Nat → Int32) (MrightOf : Nat → Int32) (Mtype : Nat → Int32) (Msum : Nat → Int32) (Msign : Nat → Int32) (MsignAt : Nat → Int32) (Mproduct : Nat → Int32) (Mopen : Int32) (Mat : Int32) => (if v1 = ((-1)) then E246 Mformulas Mkind Mone Mother Msigns Mplace MleftOf MrightOf Mtype Msum Msign MsignAt Mproduct Mopen Mat else (if Mat = Mlength then E259 Mformulas Mkind Mone Mother Msigns Mplace MleftOf MrightOf Mtype Msum Msign MsignAt Mproduct Mopen Mat else bnd14 (fX7_follows Mline Mformulas Mkind Mone Mother Msigns Mplace MleftOf MrightOf Msum Msign MsignAt Mproduct Mlength Mopen Mat) (fun r35 formulas_35 kind_35 one_35 other_35 signs_35 place_35 leftOf_35 rightOf_35 sum_35 sign_35 signAt_35 product_35 at__35 => (if r35 = 0 then E288 formulas_35 kind_35 one_35 other_35 signs_35 place_35 leftOf_35 rightOf_35 Mtype sum_35 sign_35 signAt_35 product_35 Mopen at__35 else LX7_reads_47 Mline Mlength E246 E259 E288 E293 fuel formulas_35 kind_35 one_35 other_35 signs_35 place_35 leftOf_35 rightOf_35 Mtype sum_35 sign_35 signAt_35 product_35 Mopen at__35))))) 1000 r9 1 formulas_9 kind_9 one_9 other_9 Msigns Mplace MleftOf MrightOf type__6 sum_6 Msign MsignAt product_6 open__6 at__9)))))
def fX7_reads (Mline : Nat → Int32) (Mformulas : Nat → Int32) (Mkind : Nat → Int32) (Mone : Nat → Int32) (Mother : Nat → Int32) (Msigns : Nat → Int32) (Mplace : Nat → Int32) (MleftOf : Nat → Int32) (MrightOf : Nat → Int32) (Mtype : Nat → Int32) (Msum : Nat → Int32) (Msign : Nat → Int32) (MsignAt : Nat → Int32) (Mproduct : Nat → Int32) (Mlength : Int32) (Mopen : Int32) (Mat : Int32) : Option (Int32 × (Nat → Int32) × (Nat → Int32) × (Nat → Int32) × (Nat → Int32) × (Nat → Int32) × (Nat → Int32) × (Nat → Int32) × (Nat → Int32) × (Nat → Int32) × (Nat → Int32) × (Nat → Int32) × (Nat → Int32) × (Nat → Int32) × Int32 × Int32) := gi 8 9 (gi 8 9 (gi 0 9 (gi 0 9 (gi 0 9 (LX7_reads_47 Mline Mlength (fun (Mformulas : Nat → Int32) (Mkind : Nat → Int32) (Mone : Nat → Int32) (Mother : Nat → Int32) (Msigns : Nat → Int32) (Mplace : Nat → Int32) (MleftOf : Nat → Int32) (MrightOf : Nat → Int32) (Mtype : Nat → Int32) (Msum : Nat → Int32) (Msign : Nat → Int32) (MsignAt : Nat → Int32) (Mproduct : Nat → Int32) (Mopen : Int32) (Mat : Int32) => some ((-1), Mformulas, Mkind, Mone, Mother, Msigns, Mplace, MleftOf, MrightOf, Mtype, Msum, Msign, MsignAt, Mproduct, Mopen, Mat)) (fun (Mformulas : Nat → Int32) (Mkind : Nat → Int32) (Mone : Nat → Int32) (Mother : Nat → Int32) (Msigns : Nat → Int32) (Mplace : Nat → Int32) (MleftOf : Nat → Int32) (MrightOf : Nat → Int32) (Mtype : Nat → Int32) (Msum : Nat → Int32) (Msign : Nat → Int32) (MsignAt : Nat → Int32) (Mproduct : Nat → Int32) (Mopen : Int32) (Mat : Int32) => bnd10 (fX7_adds Mformulas Mkind Mone Mother Msigns Mplace MleftOf MrightOf Msum Msign MsignAt Mproduct Mopen) (fun formulas_37 kind_37 one_37 other_37 signs_37 place_37 leftOf_37 rightOf_37 sum_37 product_37 => (if Mopen = 0 then gi 0 9 (some (sum_37 (0 : Int32).toNatClampNeg, formulas_37, kind_37, one_37, other_37, signs_37, place_37, leftOf_37, rightOf_37, Mtype, sum_37, Msign, MsignAt, product_37, Mopen, Mat)) else some ((-1), formulas_37, kind_37, one_37, other_37, signs_37, place_37, leftOf_37, rightOf_37, Mtype, sum_37, Msign, MsignAt, product_37, Mopen, Mat)))) (fun (Mformulas : Nat → Int32) (Mkind : Nat → Int32) (Mone : Nat → Int32) (Mother : Nat → Int32) (Msigns : Nat → Int32) (Mplace : Nat → Int32) (MleftOf : Nat → Int32) (MrightOf : Nat → Int32) (Mtype : Nat → Int32) (Msum : Nat → Int32) (Msign : Nat → Int32) (MsignAt : Nat → Int32) (Mproduct : Nat → Int32) (Mopen : Int32) (Mat : Int32) => some ((-1), Mformulas, Mkind, Mone, Mother, Msigns, Mplace, MleftOf, MrightOf, Mtype, Msum, Msign, MsignAt, Mproduct, Mopen, Mat)) (fun (Mformulas : Nat → Int32) (Mkind : Nat → Int32) (Mone : Nat → Int32) (Mother : Nat → Int32) (Msigns : Nat → Int32) (Mplace : Nat → Int32) (MleftOf : Nat → Int32) (MrightOf : Nat → Int32) (Mtype : Nat → Int32) (Msum : Nat → Int32) (Msign : Nat → Int32) (MsignAt : Nat → Int32) (Mproduct : Nat → Int32) (Mopen : Int32) (Mat : Int32) => some ((-1), Mformulas, Mkind, Mone, Mother, Msigns, Mplace, MleftOf, MrightOf, Mtype, Msum, Msign, MsignAt, Mproduct, Mopen, Mat)) 1000 (upd Mformulas ((8 : Int32).toNatClampNeg) 0) Mkind Mone Mother (upd Msigns ((8 : Int32).toNatClampNeg) 0) Mplace MleftOf MrightOf (upd Mtype ((0 : Int32).toNatClampNeg) 0) (upd Msum ((0 : Int32).toNatClampNeg) ((-1))) Msign MsignAt (upd Mproduct ((0 : Int32).toNatClampNeg) ((-1))) 0 0)))))
abbrev rmX7_reads : Room := { frames := 3, cells := 0, slots := 0, locals := 67 }
set_option maxHeartbeats 4000000 in
set_option maxRecDepth 100000 in
theorem met_X7_reads (l : Launch) (D : va_G) (k : Nat → ClassId)  (aM : Nat → Nat) (sz : Nat) (Mestimate : Nat → Int32) (Munit : Nat → Int32) (Msort : Nat → Int32) (Mwidth : Nat → Int32) (Mmany : Nat → Int32) (Mreading : Nat → Int32) (Mvariance : Nat → Int32) (Mcovariance : Nat → Int32) (Mline : Nat → Int32) (Mformulas : Nat → Int32) (Mroot : Nat → Int32) (Mkind : Nat → Int32) (Mone : Nat → Int32) (Mother : Nat → Int32) (Msigns : Nat → Int32) (Mplace : Nat → Int32) (MleftOf : Nat → Int32) (MrightOf : Nat → Int32) (Mtype : Nat → Int32) (Msum : Nat → Int32) (Msign : Nat → Int32) (MsignAt : Nat → Int32) (Mproduct : Nat → Int32) (Mvalue : Nat → Int64) (Mslope : Nat → Int64) (Mexponent : Nat → Int32) (Mdrawn : Nat → Int32) (Mslopes : Nat → Int64) (Mfrom : Nat → Int32) (Mfactor : Nat → Int32) (Mthrown : Int32) (Mlength : Int32) (Mmodels : Int32) (Mopen : Int32) (Mat : Int32) (Mrows : Int32) (Mx : Int32)  (r : Int32) (RMformulas : Nat → Int32) (RMkind : Nat → Int32) (RMone : Nat → Int32) (RMother : Nat → Int32) (RMsigns : Nat → Int32) (RMplace : Nat → Int32) (RMleftOf : Nat → Int32) (RMrightOf : Nat → Int32) (RMtype : Nat → Int32) (RMsum : Nat → Int32) (RMsign : Nat → Int32) (RMsignAt : Nat → Int32) (RMproduct : Nat → Int32) (RMopen : Int32) (RMat : Int32) (h : fX7_reads Mline Mformulas Mkind Mone Mother Msigns Mplace MleftOf MrightOf Mtype Msum Msign MsignAt Mproduct Mlength Mopen Mat = some (r, RMformulas, RMkind, RMone, RMother, RMsigns, RMplace, RMleftOf, RMrightOf, RMtype, RMsum, RMsign, RMsignAt, RMproduct, RMopen, RMat)) : Met l yX7_reads wsX7_reads rmX7_reads (va_Pc [.ref (aM 0)] (PreW D k (wM k aM Mestimate Munit Msort Mwidth Mmany Mreading Mvariance Mcovariance Mline Mformulas Mroot Mkind Mone Mother Msigns Mplace MleftOf MrightOf Mtype Msum Msign MsignAt Mproduct Mvalue Mslope Mexponent Mdrawn Mslopes Mfrom Mfactor Mthrown Mlength Mmodels Mopen Mat Mrows Mx) sz)) (va_Qi (fun r9 (_ : Unit) => r9 = r) (fun _ t => PostW D k (va_A (wM k aM Mestimate Munit Msort Mwidth Mmany Mreading Mvariance Mcovariance Mline Mformulas Mroot Mkind Mone Mother Msigns Mplace MleftOf MrightOf Mtype Msum Msign MsignAt Mproduct Mvalue Mslope Mexponent Mdrawn Mslopes Mfrom Mfactor Mthrown Mlength Mmodels Mopen Mat Mrows Mx) sz) (wM k aM Mestimate Munit Msort Mwidth Mmany Mreading Mvariance Mcovariance Mline RMformulas Mroot RMkind RMone RMother RMsigns RMplace RMleftOf RMrightOf RMtype RMsum RMsign RMsignAt RMproduct Mvalue Mslope Mexponent Mdrawn Mslopes Mfrom Mfactor Mthrown Mlength Mmodels RMopen RMat Mrows Mx) t) (va_A (wM k aM Mestimate Munit Msort Mwidth Mmany Mreading Mvariance Mcovariance Mline Mformulas Mroot Mkind Mone Mother Msigns Mplace MleftOf MrightOf Mtype Msum Msign MsignAt Mproduct Mvalue Mslope Mexponent Mdrawn Mslopes Mfrom Mfactor Mthrown Mlength Mmodels Mopen Mat Mrows Mx) sz)) 0 0 (va_A (wM k aM Mestimate Munit Msort Mwidth Mmany Mreading Mvariance Mcovariance Mline Mformulas Mroot Mkind Mone Mother Msigns Mplace MleftOf MrightOf Mtype Msum Msign MsignAt Mproduct Mvalue Mslope Mexponent Mdrawn Mslopes Mfrom Mfactor Mthrown Mlength Mmodels Mopen Mat Mrows Mx) sz) := by
  refine Met.ofW (cc := cX7_reads) (maxL := 3) (ret := (some .int)) (by decide) rfl ?_
  intro p e s m args below meth c s₁ B hml hv
  obtain ⟨hav, hsz, hP, hK, hD0⟩ := hv
  have hx := B.exec
  have hb := B.bytes
  have hr := B.returns
  have hts := atoms_spec (ws := wsX7_reads) B.pre
  have hown : s.vm.findClass RX7 = some m.cls := findClass_of_methodNamed B.named
  have hlocks := B.notSynchronized
  subst hsz
  have hD := hD0.self (sz := s.heap.size)
  clear hD0
  generalize hAe : va_A (wM k aM Mestimate Munit Msort Mwidth Mmany Mreading Mvariance Mcovariance Mline Mformulas Mroot Mkind Mone Mother Msigns Mplace MleftOf MrightOf Mtype Msum Msign MsignAt Mproduct Mvalue Mslope Mexponent Mdrawn Mslopes Mfrom Mfactor Mthrown Mlength Mmodels Mopen Mat Mrows Mx) s.heap.size = A at hD ⊢
  have hA : ∀ q : Nat, s.heap.size ≤ q → A q := fun q h => by rw [← hAe]; exact Or.inr h
  have hS : va_S A s.heap s.heap [] := va_S.rf
  have hl := lv_entry ([.ref (aM 0)]) (n := 3) (Nat.le_of_ble_eq_true rfl)
  rw [show entryFrame m args 3 = entryFrame m ([.ref (aM 0)] : List Value).toArray 3 from by rw [hav], lg_entry_eq]
  generalize (lg_sl ([.ref (aM 0)]) ++ List.replicate (3 - (lg_sl ([.ref (aM 0)])).length) Slot.unset).toArray = ls at hl ⊢
  replace hl : lv_has ls 3 [(0, .ref (aM 0))] := hl
  have f37 := hts (.fieldLink RX7 37 "UncertainBookModel" "formulas" "[I") (by decide +kernel)
  have f52 := hts (.fieldLink RX7 52 "UncertainBookModel" "signs" "[I") (by decide +kernel)
  have f64 := hts (.fieldLink RX7 64 "UncertainBookModel" "type" "[I") (by decide +kernel)
  have f67 := hts (.fieldLink RX7 67 "UncertainBookModel" "sum" "[I") (by decide +kernel)
  have f76 := hts (.fieldLink RX7 76 "UncertainBookModel" "product" "[I") (by decide +kernel)
  have f136 := hts (.fieldLink RX7 136 "UncertainBookModel" "length" "I") (by decide +kernel)
  have f139 := hts (.fieldLink RX7 139 "UncertainBookModel" "at" "I") (by decide +kernel)
  have f142 := hts (.fieldLink RX7 142 "UncertainBookModel" "open" "I") (by decide +kernel)
  have iX7 : ∀ w ∈ u_ws RX7 TX7 37, w ∈ wsX7_reads := by decide +kernel
  refine w_q (fun Q hQ => ?_)
  unfold fX7_reads at h
  show W p l e rmX7_reads s m args below meth c s.heap [] 0 0 Q (F0 m 0 ls [])
  have BH_168 : ∀ (K : Int32 → Int32 → (Nat → Int32) → (Nat → Int32) → (Nat → Int32) → (Nat → Int32) → (Nat → Int32) → (Nat → Int32) → (Nat → Int32) → (Nat → Int32) → (Nat → Int32) → (Nat → Int32) → (Nat → Int32) → (Nat → Int32) → (Nat → Int32) → Int32 → Int32 → Option (Int32 × (Nat → Int32) × (Nat → Int32) × (Nat → Int32) × (Nat → Int32) × (Nat → Int32) × (Nat → Int32) × (Nat → Int32) × (Nat → Int32) × (Nat → Int32) × (Nat → Int32) × (Nat → Int32) × (Nat → Int32) × (Nat → Int32) × Int32 × Int32)) (hKK : ∀ (v1 : Int32) (v2 : Int32) (Mformulas : Nat → Int32) (Mkind : Nat → Int32) (Mone : Nat → Int32) (Mother : Nat → Int32) (Msigns : Nat → Int32) (Mplace : Nat → Int32) (MleftOf : Nat → Int32) (MrightOf : Nat → Int32) (Mtype : Nat → Int32) (Msum : Nat → Int32) (Msign : Nat → Int32) (MsignAt : Nat → Int32) (Mproduct : Nat → Int32) (Mopen : Int32) (Mat : Int32), K v1 v2 Mformulas Mkind Mone Mother Msigns Mplace MleftOf MrightOf Mtype Msum Msign MsignAt Mproduct Mopen Mat = some (r, RMformulas, RMkind, RMone, RMother, RMsigns, RMplace, RMleftOf, RMrightOf, RMtype, RMsum, RMsign, RMsignAt, RMproduct, RMopen, RMat) → ∀ (H : Heap) (locs : List Loc) (ls : Array Slot), va_P D vwCl (wM k aM Mestimate Munit Msort Mwidth Mmany Mreading Mvariance Mcovariance Mline Mformulas Mroot Mkind Mone Mother Msigns Mplace MleftOf MrightOf Mtype Msum Msign MsignAt Mproduct Mvalue Mslope Mexponent Mdrawn Mslopes Mfrom Mfactor Mthrown Mlength Mmodels Mopen Mat Mrows Mx) H → va_D A (wM k aM Mestimate Munit Msort Mwidth Mmany Mreading Mvariance Mcovariance Mline Mformulas Mroot Mkind Mone Mother Msigns Mplace MleftOf MrightOf Mtype Msum Msign MsignAt Mproduct Mvalue Mslope Mexponent Mdrawn Mslopes Mfrom Mfactor Mthrown Mlength Mmodels Mopen Mat Mrows Mx) → va_S A s.heap H locs → lv_has ls 3 [(0, .ref (aM 0)), (1, .int v1), (2, .int v2)] → W p l e rmX7_reads s m args below meth c H locs 0 0 Q (F0 m 74 ls [])) (E241 : Int32 → (Nat → Int32) → (Nat → Int32) → (Nat → Int32) → (Nat → Int32) → (Nat → Int32) → (Nat → Int32) → (Nat → Int32) → (Nat → Int32) → (Nat → Int32) → (Nat → Int32) → (Nat → Int32) → (Nat → Int32) → (Nat → Int32) → Int32 → Int32 → Option (Int32 × (Nat → Int32) × (Nat → Int32) × (Nat → Int32) × (Nat → Int32) × (Nat → Int32) × (Nat → Int32) × (Nat → Int32) × (Nat → Int32) × (Nat → Int32) × (Nat → Int32) × (Nat → Int32) × (Nat → Int32) × (Nat → Int32) × Int32 × Int32)) (hE241 : ∀ (v1 : Int32) (Mformulas : Nat → Int32) (Mkind : Nat → Int32) (Mone : Nat → Int32) (Mother : Nat → Int32) (Msigns : Nat → Int32) (Mplace : Nat → Int32) (MleftOf : Nat → Int32) (MrightOf : Nat → Int32) (Mtype : Nat → Int32) (Msum : Nat → Int32) (Msign : Nat → Int32) (MsignAt : Nat → Int32) (Mproduct : Nat → Int32) (Mopen : Int32) (Mat : Int32), E241 v1 Mformulas Mkind Mone Mother Msigns Mplace MleftOf MrightOf Mtype Msum Msign MsignAt Mproduct Mopen Mat = some (r, RMformulas, RMkind, RMone, RMother, RMsigns, RMplace, RMleftOf, RMrightOf, RMtype, RMsum, RMsign, RMsignAt, RMproduct, RMopen, RMat) → ∀ (H : Heap) (locs : List Loc) (ls : Array Slot), va_P D vwCl (wM k aM Mestimate Munit Msort Mwidth Mmany Mreading Mvariance Mcovariance Mline Mformulas Mroot Mkind Mone Mother Msigns Mplace MleftOf MrightOf Mtype Msum Msign MsignAt Mproduct Mvalue Mslope Mexponent Mdrawn Mslopes Mfrom Mfactor Mthrown Mlength Mmodels Mopen Mat Mrows Mx) H → va_D A (wM k aM Mestimate Munit Msort Mwidth Mmany Mreading Mvariance Mcovariance Mline Mformulas Mroot Mkind Mone Mother Msigns Mplace MleftOf MrightOf Mtype Msum Msign MsignAt Mproduct Mvalue Mslope Mexponent Mdrawn Mslopes Mfrom Mfactor Mthrown Mlength Mmodels Mopen Mat Mrows Mx) → va_S A s.heap H locs → lv_has ls 3 [(0, .ref (aM 0)), (1, .int v1)] → W p l e rmX7_reads s m args below meth c H locs 0 0 Q (F0 m 241 ls [])) (v1 : Int32) (s1 : Int32) (s2 : Int32) (Mformulas : Nat → Int32) (Mkind : Nat → Int32) (Mone : Nat → Int32) (Mother : Nat → Int32) (Msigns : Nat → Int32) (Mplace : Nat → Int32) (MleftOf : Nat → Int32) (MrightOf : Nat → Int32) (Mtype : Nat → Int32) (Msum : Nat → Int32) (Msign : Nat → Int32) (MsignAt : Nat → Int32) (Mproduct : Nat → Int32) (Mopen : Int32) (Mat : Int32), BX7_reads_168 Mline Mlength K E241 v1 s1 s2 Mformulas Mkind Mone Mother Msigns Mplace MleftOf MrightOf Mtype Msum Msign MsignAt Mproduct Mopen Mat = some (r, RMformulas, RMkind, RMone, RMother, RMsigns, RMplace, RMleftOf, RMrightOf, RMtype, RMsum, RMsign, RMsignAt, RMproduct, RMopen, RMat) → ∀ (H : Heap) (locs : List Loc) (ls : Array Slot), va_P D vwCl (wM k aM Mestimate Munit Msort Mwidth Mmany Mreading Mvariance Mcovariance Mline Mformulas Mroot Mkind Mone Mother Msigns Mplace MleftOf MrightOf Mtype Msum Msign MsignAt Mproduct Mvalue Mslope Mexponent Mdrawn Mslopes Mfrom Mfactor Mthrown Mlength Mmodels Mopen Mat Mrows Mx) H → va_D A (wM k aM Mestimate Munit Msort Mwidth Mmany Mreading Mvariance Mcovariance Mline Mformulas Mroot Mkind Mone Mother Msigns Mplace MleftOf MrightOf Mtype Msum Msign MsignAt Mproduct Mvalue Mslope Mexponent Mdrawn Mslopes Mfrom Mfactor Mthrown Mlength Mmodels Mopen Mat Mrows Mx) → va_S A s.heap H locs → lv_has ls 3 [(0, .ref (aM 0)), (1, .int v1)] → W p l e rmX7_reads s m args below meth c H locs 0 0 Q (F0 m 168 ls [.int s2, .int s1, .ref (aM 23)]) := by
    intro K hKK E241 hE241 v1 s1 s2 Mformulas Mkind Mone Mother Msigns Mplace MleftOf MrightOf Mtype Msum Msign MsignAt Mproduct Mopen Mat h H locs ls hP hD hS hl
    unfold BX7_reads_168 at h
    obtain ⟨hi18, h⟩ := gi_inv h
    refine va_iast hx hb hK hP hD hS 23 0 rfl rfl hi18 dX7_reads_168 (fun H locs hP hD hS => ?_)
    replace hP : va_P D vwCl (wM k aM Mestimate Munit Msort Mwidth Mmany Mreading Mvariance Mcovariance Mline Mformulas Mroot Mkind Mone Mother Msigns Mplace MleftOf MrightOf Mtype Msum Msign MsignAt (upd Mproduct (s1.toNatClampNeg) s2) Mvalue Mslope Mexponent Mdrawn Mslopes Mfrom Mfactor Mthrown Mlength Mmodels Mopen Mat Mrows Mx) H := hP
    replace hD : va_D A (wM k aM Mestimate Munit Msort Mwidth Mmany Mreading Mvariance Mcovariance Mline Mformulas Mroot Mkind Mone Mother Msigns Mplace MleftOf MrightOf Mtype Msum Msign MsignAt (upd Mproduct (s1.toNatClampNeg) s2) Mvalue Mslope Mexponent Mdrawn Mslopes Mfrom Mfactor Mthrown Mlength Mmodels Mopen Mat Mrows Mx) := hD
    refine lv_iconst (v := 0) hx hb dX7_reads_169 (by decide) ?_
    refine lv_istore_n (lv' := [(2, .int 0), (0, .ref (aM 0)), (1, .int v1)]) hx hb dX7_reads_170 rfl hl (by decide) rfl (fun ls hl => ?_)
    refine lv_aload_n hx hb dX7_reads_171 rfl (lv_at hl 1 rfl) ?_
    obtain ⟨r19, hc19, h⟩ := bnd1_inv h
    have hFc := va_free (wc := (wM k aM Mestimate Munit Msort Mwidth Mmany Mreading Mvariance Mcovariance Mline Mformulas Mroot Mkind Mone Mother Msigns Mplace MleftOf MrightOf Mtype Msum Msign MsignAt (upd Mproduct (s1.toNatClampNeg) s2) Mvalue Mslope Mexponent Mdrawn Mslopes Mfrom Mfactor Mthrown Mlength Mmodels Mopen Mat Mrows Mx)) hD hS hA [0, 1, 2, 3, 4, 5, 6, 7, 8, 9, 10, 11, 12, 13, 14, 15, 16, 17, 18, 19, 20, 21, 22, 23, 24, 25, 26, 27, 28, 29, 30] rfl
    refine xc_i (va_runV (As := []) (rest := []) ⟨hx, hb, hml, hown, hts⟩ (met_X7_sign l D k  aM H.size Mestimate Munit Msort Mwidth Mmany Mreading Mvariance Mcovariance Mline Mformulas Mroot Mkind Mone Mother Msigns Mplace MleftOf MrightOf Mtype Msum Msign MsignAt (upd Mproduct (s1.toNatClampNeg) s2) Mvalue Mslope Mexponent Mdrawn Mslopes Mfrom Mfactor Mthrown Mlength Mmodels Mopen Mat Mrows Mx r19 hc19) (cwV 0 hts gX7_reads_X7_sign rfl rfl rfl (by decide +kernel) ⟨Nat.le_of_ble_eq_true rfl, Nat.le_of_ble_eq_true rfl⟩) ⟨pw_blind, va_recv hK hP (ci := 7) (q0 := 0) rfl rfl, pw_start hP hK hD⟩ rfl rfl hl.1 rfl (lv_room (Nat.le_of_ble_eq_true rfl)) dX7_reads_172 ⟨Nat.zero_le _, Nat.zero_le _⟩) hS hFc (fun H1 locs hP1 hD1 hk1 hS => ?_)
    obtain ⟨hP, hD⟩ := vj_all hFc hP1 hD1
    clear hP1 hD1 hk1 hFc
    generalize H1 = H at hP hS ⊢
    refine lv_bipush (v := 41) hx hb dX7_reads_175 (by decide) ?_
    refine lv_icmp_ne (tgt := 74) hx hb dX7_reads_177 (by decide) (fun c20 => ?_) (fun c20 => ?_)
    · replace h := sf_f c20 h
      exact hKK _ _ _ _ _ _ _ _ _ _ _ _ _ _ _ _ _ h _ _ _ hP hD hS (lv_sub hl [1, 2, 0] rfl)
    · replace h := sf_t c20 h
      refine lv_aload_n hx hb dX7_reads_180 rfl (lv_at hl 1 rfl) ?_
      refine va_get (D := D) (ci := 7) (v := .int Mopen) (C := RX7) (T := TX7) (N := 37) hx hb hts iX7 hown hK hP 0 rfl rfl 21 (by decide) f142 (fun _ h9 => h9) rfl dX7_reads_181 ?_
      refine lv_if_le (tgt := 74) hx hb dX7_reads_184 (by decide) (fun c21 => ?_) (fun c21 => ?_)
      · replace h := sf_t c21 h
        exact hKK _ _ _ _ _ _ _ _ _ _ _ _ _ _ _ _ _ h _ _ _ hP hD hS (lv_sub hl [1, 2, 0] rfl)
      · replace h := sf_f c21 h
        refine lv_aload_n hx hb dX7_reads_187 rfl (lv_at hl 1 rfl) ?_
        refine lv_dup hx hb dX7_reads_188 rfl ?_
        refine va_get (D := D) (ci := 7) (v := .int Mat) (C := RX7) (T := TX7) (N := 37) hx hb hts iX7 hown hK hP 0 rfl rfl 27 (by decide) f139 (fun _ h9 => h9) rfl dX7_reads_189 ?_
        refine lv_iconst (v := 1) hx hb dX7_reads_192 (by decide) ?_
        refine lv_iadd hx hb dX7_reads_193 ?_
        refine va_put (D := D) (ci := 7) (v := .int (Mat + 1)) (ty := .int) (C := RX7) (T := TX7) (N := 37) hx hb hts iX7 tyX7 tyX7_ok nmX7 hown hK hP hD hS 0 rfl rfl 27 (by decide) f139 (fun _ h9 => h9) rfl (by decide +kernel) rfl rfl (Nat.le_of_ble_eq_true rfl) dX7_reads_194 (fun H locs hP hD hS => ?_)
        replace hP : va_P D vwCl (wM k aM Mestimate Munit Msort Mwidth Mmany Mreading Mvariance Mcovariance Mline Mformulas Mroot Mkind Mone Mother Msigns Mplace MleftOf MrightOf Mtype Msum Msign MsignAt (upd Mproduct (s1.toNatClampNeg) s2) Mvalue Mslope Mexponent Mdrawn Mslopes Mfrom Mfactor Mthrown Mlength Mmodels Mopen (Mat + 1) Mrows Mx) H := hP
        replace hD : va_D A (wM k aM Mestimate Munit Msort Mwidth Mmany Mreading Mvariance Mcovariance Mline Mformulas Mroot Mkind Mone Mother Msigns Mplace MleftOf MrightOf Mtype Msum Msign MsignAt (upd Mproduct (s1.toNatClampNeg) s2) Mvalue Mslope Mexponent Mdrawn Mslopes Mfrom Mfactor Mthrown Mlength Mmodels Mopen (Mat + 1) Mrows Mx) := hD
        refine lv_aload_n hx hb dX7_reads_197 rfl (lv_at hl 1 rfl) ?_
        obtain ⟨formulas_22, kind_22, one_22, other_22, signs_22, place_22, leftOf_22, rightOf_22, sum_22, product_22, hc22, h⟩ := bnd10_inv h
        have hFc := va_free (wc := (wM k aM Mestimate Munit Msort Mwidth Mmany Mreading Mvariance Mcovariance Mline Mformulas Mroot Mkind Mone Mother Msigns Mplace MleftOf MrightOf Mtype Msum Msign MsignAt (upd Mproduct (s1.toNatClampNeg) s2) Mvalue Mslope Mexponent Mdrawn Mslopes Mfrom Mfactor Mthrown Mlength Mmodels Mopen (Mat + 1) Mrows Mx)) hD hS hA [0, 1, 2, 3, 4, 5, 6, 7, 8, 9, 10, 11, 12, 13, 14, 15, 16, 17, 18, 19, 20, 21, 22, 23, 24, 25, 26, 27, 28, 29, 30] rfl
        refine xc_v (va_runV (As := []) (rest := []) ⟨hx, hb, hml, hown, hts⟩ (met_X7_adds l D k  aM H.size Mestimate Munit Msort Mwidth Mmany Mreading Mvariance Mcovariance Mline Mformulas Mroot Mkind Mone Mother Msigns Mplace MleftOf MrightOf Mtype Msum Msign MsignAt (upd Mproduct (s1.toNatClampNeg) s2) Mvalue Mslope Mexponent Mdrawn Mslopes Mfrom Mfactor Mthrown Mlength Mmodels Mopen (Mat + 1) Mrows Mx formulas_22 kind_22 one_22 other_22 signs_22 place_22 leftOf_22 rightOf_22 sum_22 product_22 hc22) (cwV 0 hts gX7_reads_X7_adds rfl rfl rfl (by decide +kernel) ⟨Nat.le_of_ble_eq_true rfl, Nat.le_of_ble_eq_true rfl⟩) ⟨pw_blind, va_recv hK hP (ci := 7) (q0 := 0) rfl rfl, pw_start hP hK hD⟩ rfl rfl hl.1 rfl (lv_room (Nat.le_of_ble_eq_true rfl)) dX7_reads_198 ⟨Nat.zero_le _, Nat.zero_le _⟩) hS hFc (fun H1 locs hP1 hD1 hk1 hS => ?_)
        obtain ⟨hP, hD⟩ := vj_all hFc hP1 hD1
        clear hP1 hD1 hk1 hFc
        generalize H1 = H at hP hS ⊢
        refine lv_aload_n hx hb dX7_reads_201 rfl (lv_at hl 1 rfl) ?_
        refine va_get (D := D) (ci := 7) (v := .ref (aM 20)) (C := RX7) (T := TX7) (N := 37) hx hb hts iX7 hown hK hP 0 rfl rfl 23 (by decide) f67 (fun _ h9 => h9) rfl dX7_reads_202 ?_
        refine lv_aload_n hx hb dX7_reads_205 rfl (lv_at hl 1 rfl) ?_
        refine va_get (D := D) (ci := 7) (v := .int Mopen) (C := RX7) (T := TX7) (N := 37) hx hb hts iX7 hown hK hP 0 rfl rfl 21 (by decide) f142 (fun _ h9 => h9) rfl dX7_reads_206 ?_
        obtain ⟨hi23, h⟩ := gi_inv h
        refine va_iald hx hb hK hP 20 0 rfl rfl hi23 dX7_reads_209 ?_
        refine lv_istore_n (lv' := [(1, .int (sum_22 Mopen.toNatClampNeg)), (2, .int 0), (0, .ref (aM 0))]) hx hb dX7_reads_210 rfl hl (by decide) rfl (fun ls hl => ?_)
        refine lv_aload_n hx hb dX7_reads_211 rfl (lv_at hl 2 rfl) ?_
        refine lv_dup hx hb dX7_reads_212 rfl ?_
        refine va_get (D := D) (ci := 7) (v := .int Mopen) (C := RX7) (T := TX7) (N := 37) hx hb hts iX7 hown hK hP 0 rfl rfl 21 (by decide) f142 (fun _ h9 => h9) rfl dX7_reads_213 ?_
        refine lv_iconst (v := 1) hx hb dX7_reads_216 (by decide) ?_
        refine lv_isub hx hb dX7_reads_217 ?_
        refine va_put (D := D) (ci := 7) (v := .int (Mopen - 1)) (ty := .int) (C := RX7) (T := TX7) (N := 37) hx hb hts iX7 tyX7 tyX7_ok nmX7 hown hK hP hD hS 0 rfl rfl 21 (by decide) f142 (fun _ h9 => h9) rfl (by decide +kernel) rfl rfl (Nat.le_of_ble_eq_true rfl) dX7_reads_218 (fun H locs hP hD hS => ?_)
        replace hP : va_P D vwCl (wM k aM Mestimate Munit Msort Mwidth Mmany Mreading Mvariance Mcovariance Mline formulas_22 Mroot kind_22 one_22 other_22 signs_22 place_22 leftOf_22 rightOf_22 Mtype sum_22 Msign MsignAt product_22 Mvalue Mslope Mexponent Mdrawn Mslopes Mfrom Mfactor Mthrown Mlength Mmodels (Mopen - 1) (Mat + 1) Mrows Mx) H := hP
        replace hD : va_D A (wM k aM Mestimate Munit Msort Mwidth Mmany Mreading Mvariance Mcovariance Mline formulas_22 Mroot kind_22 one_22 other_22 signs_22 place_22 leftOf_22 rightOf_22 Mtype sum_22 Msign MsignAt product_22 Mvalue Mslope Mexponent Mdrawn Mslopes Mfrom Mfactor Mthrown Mlength Mmodels (Mopen - 1) (Mat + 1) Mrows Mx) := hD
        refine lv_aload_n hx hb dX7_reads_221 rfl (lv_at hl 2 rfl) ?_
        refine lv_iload_n hx hb dX7_reads_222 rfl (lv_at hl 0 rfl) ?_
        obtain ⟨r24, formulas_24, kind_24, one_24, other_24, at__24, hc24, h⟩ := bnd6_inv h
        have hFc := va_free (wc := (wM k aM Mestimate Munit Msort Mwidth Mmany Mreading Mvariance Mcovariance Mline formulas_22 Mroot kind_22 one_22 other_22 signs_22 place_22 leftOf_22 rightOf_22 Mtype sum_22 Msign MsignAt product_22 Mvalue Mslope Mexponent Mdrawn Mslopes Mfrom Mfactor Mthrown Mlength Mmodels (Mopen - 1) (Mat + 1) Mrows Mx)) hD hS hA [0, 1, 2, 3, 4, 5, 6, 7, 8, 9, 10, 11, 12, 13, 14, 15, 16, 17, 18, 19, 20, 21, 22, 23, 24, 25, 26, 27, 28, 29, 30] rfl
        refine xc_i (va_runV (As := [.int (sum_22 Mopen.toNatClampNeg)]) (rest := []) ⟨hx, hb, hml, hown, hts⟩ (met_X7_power l D k  aM H.size Mestimate Munit Msort Mwidth Mmany Mreading Mvariance Mcovariance Mline formulas_22 Mroot kind_22 one_22 other_22 signs_22 place_22 leftOf_22 rightOf_22 Mtype sum_22 Msign MsignAt product_22 Mvalue Mslope Mexponent Mdrawn Mslopes Mfrom Mfactor Mthrown Mlength Mmodels (Mopen - 1) (Mat + 1) Mrows Mx (sum_22 Mopen.toNatClampNeg) r24 formulas_24 kind_24 one_24 other_24 at__24 hc24) (cwV 1 hts gX7_reads_X7_power rfl rfl rfl (by decide +kernel) ⟨Nat.le_of_ble_eq_true rfl, Nat.le_of_ble_eq_true rfl⟩) ⟨pw_blind, va_recv hK hP (ci := 7) (q0 := 0) rfl rfl, pw_start hP hK hD⟩ rfl rfl hl.1 rfl (lv_room (Nat.le_of_ble_eq_true rfl)) dX7_reads_223 ⟨Nat.zero_le _, Nat.zero_le _⟩) hS hFc (fun H1 locs hP1 hD1 hk1 hS => ?_)
        obtain ⟨hP, hD⟩ := vj_all hFc hP1 hD1
        clear hP1 hD1 hk1 hFc
        generalize H1 = H at hP hS ⊢
        refine lv_istore_n (lv' := [(1, .int r24), (2, .int 0), (0, .ref (aM 0))]) hx hb dX7_reads_226 rfl hl (by decide) rfl (fun ls hl => ?_)
        refine lv_iload_n hx hb dX7_reads_227 rfl (lv_at hl 0 rfl) ?_
        refine lv_iconst (v := -1) hx hb dX7_reads_228 (by decide) ?_
        refine lv_icmp_eq (tgt := 236) hx hb dX7_reads_229 (by decide) (fun c25 => ?_) (fun c25 => ?_)
        · replace h := sf_t c25 h
          refine lv_iconst (v := 0) hx hb dX7_reads_236 (by decide) ?_
          refine lv_istore_n (lv' := [(2, .int 0), (1, .int r24), (0, .ref (aM 0))]) hx hb dX7_reads_237 rfl hl (by decide) rfl (fun ls hl => ?_)
          refine lv_goto (tgt := 74) hx hb dX7_reads_238 (by decide) ?_
          exact hKK _ _ _ _ _ _ _ _ _ _ _ _ _ _ _ _ _ h _ _ _ hP hD hS (lv_sub hl [2, 1, 0] rfl)
        · replace h := sf_f c25 h
          refine lv_iconst (v := 1) hx hb dX7_reads_232 (by decide) ?_
          refine lv_goto (tgt := 237) hx hb dX7_reads_233 (by decide) ?_
          refine lv_istore_n (lv' := [(2, .int 1), (1, .int r24), (0, .ref (aM 0))]) hx hb dX7_reads_237 rfl hl (by decide) rfl (fun ls hl => ?_)
          refine lv_goto (tgt := 74) hx hb dX7_reads_238 (by decide) ?_
          exact hKK _ _ _ _ _ _ _ _ _ _ _ _ _ _ _ _ _ h _ _ _ hP hD hS (lv_sub hl [2, 1, 0] rfl)
  have LH_74 : ∀ (E241 : Int32 → (Nat → Int32) → (Nat → Int32) → (Nat → Int32) → (Nat → Int32) → (Nat → Int32) → (Nat → Int32) → (Nat → Int32) → (Nat → Int32) → (Nat → Int32) → (Nat → Int32) → (Nat → Int32) → (Nat → Int32) → (Nat → Int32) → Int32 → Int32 → Option (Int32 × (Nat → Int32) × (Nat → Int32) × (Nat → Int32) × (Nat → Int32) × (Nat → Int32) × (Nat → Int32) × (Nat → Int32) × (Nat → Int32) × (Nat → Int32) × (Nat → Int32) × (Nat → Int32) × (Nat → Int32) × (Nat → Int32) × Int32 × Int32)) (hE241 : ∀ (v1 : Int32) (Mformulas : Nat → Int32) (Mkind : Nat → Int32) (Mone : Nat → Int32) (Mother : Nat → Int32) (Msigns : Nat → Int32) (Mplace : Nat → Int32) (MleftOf : Nat → Int32) (MrightOf : Nat → Int32) (Mtype : Nat → Int32) (Msum : Nat → Int32) (Msign : Nat → Int32) (MsignAt : Nat → Int32) (Mproduct : Nat → Int32) (Mopen : Int32) (Mat : Int32), E241 v1 Mformulas Mkind Mone Mother Msigns Mplace MleftOf MrightOf Mtype Msum Msign MsignAt Mproduct Mopen Mat = some (r, RMformulas, RMkind, RMone, RMother, RMsigns, RMplace, RMleftOf, RMrightOf, RMtype, RMsum, RMsign, RMsignAt, RMproduct, RMopen, RMat) → ∀ (H : Heap) (locs : List Loc) (ls : Array Slot), va_P D vwCl (wM k aM Mestimate Munit Msort Mwidth Mmany Mreading Mvariance Mcovariance Mline Mformulas Mroot Mkind Mone Mother Msigns Mplace MleftOf MrightOf Mtype Msum Msign MsignAt Mproduct Mvalue Mslope Mexponent Mdrawn Mslopes Mfrom Mfactor Mthrown Mlength Mmodels Mopen Mat Mrows Mx) H → va_D A (wM k aM Mestimate Munit Msort Mwidth Mmany Mreading Mvariance Mcovariance Mline Mformulas Mroot Mkind Mone Mother Msigns Mplace MleftOf MrightOf Mtype Msum Msign MsignAt Mproduct Mvalue Mslope Mexponent Mdrawn Mslopes Mfrom Mfactor Mthrown Mlength Mmodels Mopen Mat Mrows Mx) → va_S A s.heap H locs → lv_has ls 3 [(0, .ref (aM 0)), (1, .int v1)] → W p l e rmX7_reads s m args below meth c H locs 0 0 Q (F0 m 241 ls [])) (n : Nat) (v1 : Int32) (v2 : Int32) (Mformulas : Nat → Int32) (Mkind : Nat → Int32) (Mone : Nat → Int32) (Mother : Nat → Int32) (Msigns : Nat → Int32) (Mplace : Nat → Int32) (MleftOf : Nat → Int32) (MrightOf : Nat → Int32) (Mtype : Nat → Int32) (Msum : Nat → Int32) (Msign : Nat → Int32) (MsignAt : Nat → Int32) (Mproduct : Nat → Int32) (Mopen : Int32) (Mat : Int32), LX7_reads_74 Mline Mlength E241 n v1 v2 Mformulas Mkind Mone Mother Msigns Mplace MleftOf MrightOf Mtype Msum Msign MsignAt Mproduct Mopen Mat = some (r, RMformulas, RMkind, RMone, RMother, RMsigns, RMplace, RMleftOf, RMrightOf, RMtype, RMsum, RMsign, RMsignAt, RMproduct, RMopen, RMat) → ∀ (H : Heap) (locs : List Loc) (ls : Array Slot), va_P D vwCl (wM k aM Mestimate Munit Msort Mwidth Mmany Mreading Mvariance Mcovariance Mline Mformulas Mroot Mkind Mone Mother Msigns Mplace MleftOf MrightOf Mtype Msum Msign MsignAt Mproduct Mvalue Mslope Mexponent Mdrawn Mslopes Mfrom Mfactor Mthrown Mlength Mmodels Mopen Mat Mrows Mx) H → va_D A (wM k aM Mestimate Munit Msort Mwidth Mmany Mreading Mvariance Mcovariance Mline Mformulas Mroot Mkind Mone Mother Msigns Mplace MleftOf MrightOf Mtype Msum Msign MsignAt Mproduct Mvalue Mslope Mexponent Mdrawn Mslopes Mfrom Mfactor Mthrown Mlength Mmodels Mopen Mat Mrows Mx) → va_S A s.heap H locs → lv_has ls 3 [(0, .ref (aM 0)), (1, .int v1), (2, .int v2)] → W p l e rmX7_reads s m args below meth c H locs 0 0 Q (F0 m 74 ls []) := by
    intro E241 hE241 n
    induction n with
    | zero => intro v1 v2 Mformulas Mkind Mone Mother Msigns Mplace MleftOf MrightOf Mtype Msum Msign MsignAt Mproduct Mopen Mat h; simp [LX7_reads_74] at h
    | succ n ih =>
    intro v1 v2 Mformulas Mkind Mone Mother Msigns Mplace MleftOf MrightOf Mtype Msum Msign MsignAt Mproduct Mopen Mat h H locs ls hP hD hS hl
    rw [LX7_reads_74] at h
    refine lv_iload_n hx hb dX7_reads_74 rfl (lv_at hl 2 rfl) ?_
    refine lv_if_eq (tgt := 241) hx hb dX7_reads_75 (by decide) (fun c11 => ?_) (fun c11 => ?_)
    · replace h := sf_t c11 h
      exact hE241 _ _ _ _ _ _ _ _ _ _ _ _ _ _ _ _ h _ _ _ hP hD hS (lv_sub hl [0, 1] rfl)
    · replace h := sf_f c11 h
      refine lv_aload_n hx hb dX7_reads_78 rfl (lv_at hl 0 rfl) ?_
      refine va_get (D := D) (ci := 7) (v := .ref (aM 19)) (C := RX7) (T := TX7) (N := 37) hx hb hts iX7 hown hK hP 0 rfl rfl 22 (by decide) f64 (fun _ h9 => h9) rfl dX7_reads_79 ?_
      refine lv_aload_n hx hb dX7_reads_82 rfl (lv_at hl 0 rfl) ?_
      refine va_get (D := D) (ci := 7) (v := .int Mopen) (C := RX7) (T := TX7) (N := 37) hx hb hts iX7 hown hK hP 0 rfl rfl 21 (by decide) f142 (fun _ h9 => h9) rfl dX7_reads_83 ?_
      obtain ⟨hi12, h⟩ := gi_inv h
      refine va_iald hx hb hK hP 19 0 rfl rfl hi12 dX7_reads_86 ?_
      refine lv_iconst (v := 1) hx hb dX7_reads_87 (by decide) ?_
      refine lv_icmp_ne (tgt := 128) hx hb dX7_reads_88 (by decide) (fun c13 => ?_) (fun c13 => ?_)
      · replace h := sf_f c13 h
        refine lv_aload_n hx hb dX7_reads_128 rfl (lv_at hl 0 rfl) ?_
        refine va_get (D := D) (ci := 7) (v := .ref (aM 23)) (C := RX7) (T := TX7) (N := 37) hx hb hts iX7 hown hK hP 0 rfl rfl 26 (by decide) f76 (fun _ h9 => h9) rfl dX7_reads_129 ?_
        refine lv_aload_n hx hb dX7_reads_132 rfl (lv_at hl 0 rfl) ?_
        refine va_get (D := D) (ci := 7) (v := .int Mopen) (C := RX7) (T := TX7) (N := 37) hx hb hts iX7 hown hK hP 0 rfl rfl 21 (by decide) f142 (fun _ h9 => h9) rfl dX7_reads_133 ?_
        refine lv_aload_n hx hb dX7_reads_136 rfl (lv_at hl 0 rfl) ?_
        refine va_get (D := D) (ci := 7) (v := .ref (aM 23)) (C := RX7) (T := TX7) (N := 37) hx hb hts iX7 hown hK hP 0 rfl rfl 26 (by decide) f76 (fun _ h9 => h9) rfl dX7_reads_137 ?_
        refine lv_aload_n hx hb dX7_reads_140 rfl (lv_at hl 0 rfl) ?_
        refine va_get (D := D) (ci := 7) (v := .int Mopen) (C := RX7) (T := TX7) (N := 37) hx hb hts iX7 hown hK hP 0 rfl rfl 21 (by decide) f142 (fun _ h9 => h9) rfl dX7_reads_141 ?_
        obtain ⟨hi14, h⟩ := gi_inv h
        refine va_iald hx hb hK hP 23 0 rfl rfl hi14 dX7_reads_144 ?_
        refine lv_iconst (v := -1) hx hb dX7_reads_145 (by decide) ?_
        refine lv_icmp_ne (tgt := 153) hx hb dX7_reads_146 (by decide) (fun c15 => ?_) (fun c15 => ?_)
        · replace h := sf_f c15 h
          refine lv_aload_n hx hb dX7_reads_153 rfl (lv_at hl 0 rfl) ?_
          refine lv_iconst (v := 4) hx hb dX7_reads_154 (by decide) ?_
          refine lv_aload_n hx hb dX7_reads_155 rfl (lv_at hl 0 rfl) ?_
          refine va_get (D := D) (ci := 7) (v := .ref (aM 23)) (C := RX7) (T := TX7) (N := 37) hx hb hts iX7 hown hK hP 0 rfl rfl 26 (by decide) f76 (fun _ h9 => h9) rfl dX7_reads_156 ?_
          refine lv_aload_n hx hb dX7_reads_159 rfl (lv_at hl 0 rfl) ?_
          refine va_get (D := D) (ci := 7) (v := .int Mopen) (C := RX7) (T := TX7) (N := 37) hx hb hts iX7 hown hK hP 0 rfl rfl 21 (by decide) f142 (fun _ h9 => h9) rfl dX7_reads_160 ?_
          obtain ⟨hi16, h⟩ := gi_inv h
          refine va_iald hx hb hK hP 23 0 rfl rfl hi16 dX7_reads_163 ?_
          refine lv_iload_n hx hb dX7_reads_164 rfl (lv_at hl 1 rfl) ?_
          obtain ⟨r17, formulas_17, kind_17, one_17, other_17, hc17, h⟩ := bnd5_inv h
          have hFc := va_free (wc := (wM k aM Mestimate Munit Msort Mwidth Mmany Mreading Mvariance Mcovariance Mline Mformulas Mroot Mkind Mone Mother Msigns Mplace MleftOf MrightOf Mtype Msum Msign MsignAt Mproduct Mvalue Mslope Mexponent Mdrawn Mslopes Mfrom Mfactor Mthrown Mlength Mmodels Mopen Mat Mrows Mx)) hD hS hA [0, 1, 2, 3, 4, 5, 6, 7, 8, 9, 10, 11, 12, 13, 14, 15, 16, 17, 18, 19, 20, 21, 22, 23, 24, 25, 26, 27, 28, 29, 30] rfl
          refine xc_i (va_runV (As := [.int 4, .int (Mproduct Mopen.toNatClampNeg), .int v1]) (rest := [.int Mopen, .ref (aM 23)]) ⟨hx, hb, hml, hown, hts⟩ (met_X7_formula l D k  aM H.size Mestimate Munit Msort Mwidth Mmany Mreading Mvariance Mcovariance Mline Mformulas Mroot Mkind Mone Mother Msigns Mplace MleftOf MrightOf Mtype Msum Msign MsignAt Mproduct Mvalue Mslope Mexponent Mdrawn Mslopes Mfrom Mfactor Mthrown Mlength Mmodels Mopen Mat Mrows Mx 4 (Mproduct Mopen.toNatClampNeg) v1 r17 formulas_17 kind_17 one_17 other_17 hc17) (cwV 3 hts gX7_reads_X7_formula rfl rfl rfl (by decide +kernel) ⟨Nat.le_of_ble_eq_true rfl, Nat.le_of_ble_eq_true rfl⟩) ⟨pw_blind, va_recv hK hP (ci := 7) (q0 := 0) rfl rfl, pw_start hP hK hD⟩ rfl rfl hl.1 rfl (lv_room (Nat.le_of_ble_eq_true rfl)) dX7_reads_165 ⟨Nat.zero_le _, Nat.zero_le _⟩) hS hFc (fun H1 locs hP1 hD1 hk1 hS => ?_)
          obtain ⟨hP, hD⟩ := vj_all hFc hP1 hD1
          clear hP1 hD1 hk1 hFc
          generalize H1 = H at hP hS ⊢
          exact BH_168 _ ih _ hE241 _ _ _ _ _ _ _ _ _ _ _ _ _ _ _ _ _ _ h _ _ _ hP hD hS (lv_sub hl [0, 1] rfl)
        · replace h := sf_t c15 h
          refine lv_iload_n hx hb dX7_reads_149 rfl (lv_at hl 1 rfl) ?_
          refine lv_goto (tgt := 168) hx hb dX7_reads_150 (by decide) ?_
          exact BH_168 _ ih _ hE241 _ _ _ _ _ _ _ _ _ _ _ _ _ _ _ _ _ _ h _ _ _ hP hD hS (lv_sub hl [0, 1] rfl)
      · replace h := sf_t c13 h
        refine lv_aload_n hx hb dX7_reads_91 rfl (lv_at hl 0 rfl) ?_
        refine lv_dup hx hb dX7_reads_92 rfl ?_
        refine va_get (D := D) (ci := 7) (v := .int Mopen) (C := RX7) (T := TX7) (N := 37) hx hb hts iX7 hown hK hP 0 rfl rfl 21 (by decide) f142 (fun _ h9 => h9) rfl dX7_reads_93 ?_
        refine lv_iconst (v := 1) hx hb dX7_reads_96 (by decide) ?_
        refine lv_isub hx hb dX7_reads_97 ?_
        refine va_put (D := D) (ci := 7) (v := .int (Mopen - 1)) (ty := .int) (C := RX7) (T := TX7) (N := 37) hx hb hts iX7 tyX7 tyX7_ok nmX7 hown hK hP hD hS 0 rfl rfl 21 (by decide) f142 (fun _ h9 => h9) rfl (by decide +kernel) rfl rfl (Nat.le_of_ble_eq_true rfl) dX7_reads_98 (fun H locs hP hD hS => ?_)
        replace hP : va_P D vwCl (wM k aM Mestimate Munit Msort Mwidth Mmany Mreading Mvariance Mcovariance Mline Mformulas Mroot Mkind Mone Mother Msigns Mplace MleftOf MrightOf Mtype Msum Msign MsignAt Mproduct Mvalue Mslope Mexponent Mdrawn Mslopes Mfrom Mfactor Mthrown Mlength Mmodels (Mopen - 1) Mat Mrows Mx) H := hP
        replace hD : va_D A (wM k aM Mestimate Munit Msort Mwidth Mmany Mreading Mvariance Mcovariance Mline Mformulas Mroot Mkind Mone Mother Msigns Mplace MleftOf MrightOf Mtype Msum Msign MsignAt Mproduct Mvalue Mslope Mexponent Mdrawn Mslopes Mfrom Mfactor Mthrown Mlength Mmodels (Mopen - 1) Mat Mrows Mx) := hD
        refine lv_aload_n hx hb dX7_reads_101 rfl (lv_at hl 0 rfl) ?_
        refine lv_aload_n hx hb dX7_reads_102 rfl (lv_at hl 0 rfl) ?_
        refine lv_bipush (v := 6) hx hb dX7_reads_103 (by decide) ?_
        refine lv_iload_n hx hb dX7_reads_105 rfl (lv_at hl 1 rfl) ?_
        refine lv_iconst (v := 0) hx hb dX7_reads_106 (by decide) ?_
        obtain ⟨r26, formulas_26, kind_26, one_26, other_26, hc26, h⟩ := bnd5_inv h
        have hFc := va_free (wc := (wM k aM Mestimate Munit Msort Mwidth Mmany Mreading Mvariance Mcovariance Mline Mformulas Mroot Mkind Mone Mother Msigns Mplace MleftOf MrightOf Mtype Msum Msign MsignAt Mproduct Mvalue Mslope Mexponent Mdrawn Mslopes Mfrom Mfactor Mthrown Mlength Mmodels (Mopen - 1) Mat Mrows Mx)) hD hS hA [0, 1, 2, 3, 4, 5, 6, 7, 8, 9, 10, 11, 12, 13, 14, 15, 16, 17, 18, 19, 20, 21, 22, 23, 24, 25, 26, 27, 28, 29, 30] rfl
        refine xc_i (va_runV (As := [.int 6, .int v1, .int 0]) (rest := [.ref (aM 0)]) ⟨hx, hb, hml, hown, hts⟩ (met_X7_formula l D k  aM H.size Mestimate Munit Msort Mwidth Mmany Mreading Mvariance Mcovariance Mline Mformulas Mroot Mkind Mone Mother Msigns Mplace MleftOf MrightOf Mtype Msum Msign MsignAt Mproduct Mvalue Mslope Mexponent Mdrawn Mslopes Mfrom Mfactor Mthrown Mlength Mmodels (Mopen - 1) Mat Mrows Mx 6 v1 0 r26 formulas_26 kind_26 one_26 other_26 hc26) (cwV 3 hts gX7_reads_X7_formula rfl rfl rfl (by decide +kernel) ⟨Nat.le_of_ble_eq_true rfl, Nat.le_of_ble_eq_true rfl⟩) ⟨pw_blind, va_recv hK hP (ci := 7) (q0 := 0) rfl rfl, pw_start hP hK hD⟩ rfl rfl hl.1 rfl (lv_room (Nat.le_of_ble_eq_true rfl)) dX7_reads_107 ⟨Nat.zero_le _, Nat.zero_le _⟩) hS hFc (fun H1 locs hP1 hD1 hk1 hS => ?_)
        obtain ⟨hP, hD⟩ := vj_all hFc hP1 hD1
        clear hP1 hD1 hk1 hFc
        generalize H1 = H at hP hS ⊢
        obtain ⟨r27, formulas_27, kind_27, one_27, other_27, at__27, hc27, h⟩ := bnd6_inv h
        have hFc := va_free (wc := (wM k aM Mestimate Munit Msort Mwidth Mmany Mreading Mvariance Mcovariance Mline formulas_26 Mroot kind_26 one_26 other_26 Msigns Mplace MleftOf MrightOf Mtype Msum Msign MsignAt Mproduct Mvalue Mslope Mexponent Mdrawn Mslopes Mfrom Mfactor Mthrown Mlength Mmodels (Mopen - 1) Mat Mrows Mx)) hD hS hA [0, 1, 2, 3, 4, 5, 6, 7, 8, 9, 10, 11, 12, 13, 14, 15, 16, 17, 18, 19, 20, 21, 22, 23, 24, 25, 26, 27, 28, 29, 30] rfl
        refine xc_i (va_runV (As := [.int r26]) (rest := []) ⟨hx, hb, hml, hown, hts⟩ (met_X7_power l D k  aM H.size Mestimate Munit Msort Mwidth Mmany Mreading Mvariance Mcovariance Mline formulas_26 Mroot kind_26 one_26 other_26 Msigns Mplace MleftOf MrightOf Mtype Msum Msign MsignAt Mproduct Mvalue Mslope Mexponent Mdrawn Mslopes Mfrom Mfactor Mthrown Mlength Mmodels (Mopen - 1) Mat Mrows Mx r26 r27 formulas_27 kind_27 one_27 other_27 at__27 hc27) (cwV 1 hts gX7_reads_X7_power rfl rfl rfl (by decide +kernel) ⟨Nat.le_of_ble_eq_true rfl, Nat.le_of_ble_eq_true rfl⟩) ⟨pw_blind, va_recv hK hP (ci := 7) (q0 := 0) rfl rfl, pw_start hP hK hD⟩ rfl rfl hl.1 rfl (lv_room (Nat.le_of_ble_eq_true rfl)) dX7_reads_110 ⟨Nat.zero_le _, Nat.zero_le _⟩) hS hFc (fun H1 locs hP1 hD1 hk1 hS => ?_)
        obtain ⟨hP, hD⟩ := vj_all hFc hP1 hD1
        clear hP1 hD1 hk1 hFc
        generalize H1 = H at hP hS ⊢
        refine lv_istore_n (lv' := [(1, .int r27), (0, .ref (aM 0)), (2, .int v2)]) hx hb dX7_reads_113 rfl hl (by decide) rfl (fun ls hl => ?_)
        refine lv_iload_n hx hb dX7_reads_114 rfl (lv_at hl 0 rfl) ?_
        refine lv_iconst (v := -1) hx hb dX7_reads_115 (by decide) ?_
        refine lv_icmp_eq (tgt := 123) hx hb dX7_reads_116 (by decide) (fun c28 => ?_) (fun c28 => ?_)
        · replace h := sf_t c28 h
          refine lv_iconst (v := 0) hx hb dX7_reads_123 (by decide) ?_
          refine lv_istore_n (lv' := [(2, .int 0), (1, .int r27), (0, .ref (aM 0))]) hx hb dX7_reads_124 rfl hl (by decide) rfl (fun ls hl => ?_)
          refine lv_goto (tgt := 74) hx hb dX7_reads_125 (by decide) ?_
          exact ih _ _ _ _ _ _ _ _ _ _ _ _ _ _ _ _ _ h _ _ _ hP hD hS (lv_sub hl [2, 1, 0] rfl)
        · replace h := sf_f c28 h
          refine lv_iconst (v := 1) hx hb dX7_reads_119 (by decide) ?_
          refine lv_goto (tgt := 124) hx hb dX7_reads_120 (by decide) ?_
          refine lv_istore_n (lv' := [(2, .int 1), (1, .int r27), (0, .ref (aM 0))]) hx hb dX7_reads_124 rfl hl (by decide) rfl (fun ls hl => ?_)
          refine lv_goto (tgt := 74) hx hb dX7_reads_125 (by decide) ?_
          exact ih _ _ _ _ _ _ _ _ _ _ _ _ _ _ _ _ _ h _ _ _ hP hD hS (lv_sub hl [2, 1, 0] rfl)
  have LH_47 : ∀ (E246 : (Nat → Int32) → (Nat → Int32) → (Nat → Int32) → (Nat → Int32) → (Nat → Int32) → (Nat → Int32) → (Nat → Int32) → (Nat → Int32) → (Nat → Int32) → (Nat → Int32) → (Nat → Int32) → (Nat → Int32) → (Nat → Int32) → Int32 → Int32 → Option (Int32 × (Nat → Int32) × (Nat → Int32) × (Nat → Int32) × (Nat → Int32) × (Nat → Int32) × (Nat → Int32) × (Nat → Int32) × (Nat → Int32) × (Nat → Int32) × (Nat → Int32) × (Nat → Int32) × (Nat → Int32) × (Nat → Int32) × Int32 × Int32)) (hE246 : ∀ (Mformulas : Nat → Int32) (Mkind : Nat → Int32) (Mone : Nat → Int32) (Mother : Nat → Int32) (Msigns : Nat → Int32) (Mplace : Nat → Int32) (MleftOf : Nat → Int32) (MrightOf : Nat → Int32) (Mtype : Nat → Int32) (Msum : Nat → Int32) (Msign : Nat → Int32) (MsignAt : Nat → Int32) (Mproduct : Nat → Int32) (Mopen : Int32) (Mat : Int32), E246 Mformulas Mkind Mone Mother Msigns Mplace MleftOf MrightOf Mtype Msum Msign MsignAt Mproduct Mopen Mat = some (r, RMformulas, RMkind, RMone, RMother, RMsigns, RMplace, RMleftOf, RMrightOf, RMtype, RMsum, RMsign, RMsignAt, RMproduct, RMopen, RMat) → ∀ (H : Heap) (locs : List Loc) (ls : Array Slot), va_P D vwCl (wM k aM Mestimate Munit Msort Mwidth Mmany Mreading Mvariance Mcovariance Mline Mformulas Mroot Mkind Mone Mother Msigns Mplace MleftOf MrightOf Mtype Msum Msign MsignAt Mproduct Mvalue Mslope Mexponent Mdrawn Mslopes Mfrom Mfactor Mthrown Mlength Mmodels Mopen Mat Mrows Mx) H → va_D A (wM k aM Mestimate Munit Msort Mwidth Mmany Mreading Mvariance Mcovariance Mline Mformulas Mroot Mkind Mone Mother Msigns Mplace MleftOf MrightOf Mtype Msum Msign MsignAt Mproduct Mvalue Mslope Mexponent Mdrawn Mslopes Mfrom Mfactor Mthrown Mlength Mmodels Mopen Mat Mrows Mx) → va_S A s.heap H locs → lv_has ls 3 [] → W p l e rmX7_reads s m args below meth c H locs 0 0 Q (F0 m 246 ls [])) (E259 : (Nat → Int32) → (Nat → Int32) → (Nat → Int32) → (Nat → Int32) → (Nat → Int32) → (Nat → Int32) → (Nat → Int32) → (Nat → Int32) → (Nat → Int32) → (Nat → Int32) → (Nat → Int32) → (Nat → Int32) → (Nat → Int32) → Int32 → Int32 → Option (Int32 × (Nat → Int32) × (Nat → Int32) × (Nat → Int32) × (Nat → Int32) × (Nat → Int32) × (Nat → Int32) × (Nat → Int32) × (Nat → Int32) × (Nat → Int32) × (Nat → Int32) × (Nat → Int32) × (Nat → Int32) × (Nat → Int32) × Int32 × Int32)) (hE259 : ∀ (Mformulas : Nat → Int32) (Mkind : Nat → Int32) (Mone : Nat → Int32) (Mother : Nat → Int32) (Msigns : Nat → Int32) (Mplace : Nat → Int32) (MleftOf : Nat → Int32) (MrightOf : Nat → Int32) (Mtype : Nat → Int32) (Msum : Nat → Int32) (Msign : Nat → Int32) (MsignAt : Nat → Int32) (Mproduct : Nat → Int32) (Mopen : Int32) (Mat : Int32), E259 Mformulas Mkind Mone Mother Msigns Mplace MleftOf MrightOf Mtype Msum Msign MsignAt Mproduct Mopen Mat = some (r, RMformulas, RMkind, RMone, RMother, RMsigns, RMplace, RMleftOf, RMrightOf, RMtype, RMsum, RMsign, RMsignAt, RMproduct, RMopen, RMat) → ∀ (H : Heap) (locs : List Loc) (ls : Array Slot), va_P D vwCl (wM k aM Mestimate Munit Msort Mwidth Mmany Mreading Mvariance Mcovariance Mline Mformulas Mroot Mkind Mone Mother Msigns Mplace MleftOf MrightOf Mtype Msum Msign MsignAt Mproduct Mvalue Mslope Mexponent Mdrawn Mslopes Mfrom Mfactor Mthrown Mlength Mmodels Mopen Mat Mrows Mx) H → va_D A (wM k aM Mestimate Munit Msort Mwidth Mmany Mreading Mvariance Mcovariance Mline Mformulas Mroot Mkind Mone Mother Msigns Mplace MleftOf MrightOf Mtype Msum Msign MsignAt Mproduct Mvalue Mslope Mexponent Mdrawn Mslopes Mfrom Mfactor Mthrown Mlength Mmodels Mopen Mat Mrows Mx) → va_S A s.heap H locs → lv_has ls 3 [(0, .ref (aM 0))] → W p l e rmX7_reads s m args below meth c H locs 0 0 Q (F0 m 259 ls [])) (E288 : (Nat → Int32) → (Nat → Int32) → (Nat → Int32) → (Nat → Int32) → (Nat → Int32) → (Nat → Int32) → (Nat → Int32) → (Nat → Int32) → (Nat → Int32) → (Nat → Int32) → (Nat → Int32) → (Nat → Int32) → (Nat → Int32) → Int32 → Int32 → Option (Int32 × (Nat → Int32) × (Nat → Int32) × (Nat → Int32) × (Nat → Int32) × (Nat → Int32) × (Nat → Int32) × (Nat → Int32) × (Nat → Int32) × (Nat → Int32) × (Nat → Int32) × (Nat → Int32) × (Nat → Int32) × (Nat → Int32) × Int32 × Int32)) (hE288 : ∀ (Mformulas : Nat → Int32) (Mkind : Nat → Int32) (Mone : Nat → Int32) (Mother : Nat → Int32) (Msigns : Nat → Int32) (Mplace : Nat → Int32) (MleftOf : Nat → Int32) (MrightOf : Nat → Int32) (Mtype : Nat → Int32) (Msum : Nat → Int32) (Msign : Nat → Int32) (MsignAt : Nat → Int32) (Mproduct : Nat → Int32) (Mopen : Int32) (Mat : Int32), E288 Mformulas Mkind Mone Mother Msigns Mplace MleftOf MrightOf Mtype Msum Msign MsignAt Mproduct Mopen Mat = some (r, RMformulas, RMkind, RMone, RMother, RMsigns, RMplace, RMleftOf, RMrightOf, RMtype, RMsum, RMsign, RMsignAt, RMproduct, RMopen, RMat) → ∀ (H : Heap) (locs : List Loc) (ls : Array Slot), va_P D vwCl (wM k aM Mestimate Munit Msort Mwidth Mmany Mreading Mvariance Mcovariance Mline Mformulas Mroot Mkind Mone Mother Msigns Mplace MleftOf MrightOf Mtype Msum Msign MsignAt Mproduct Mvalue Mslope Mexponent Mdrawn Mslopes Mfrom Mfactor Mthrown Mlength Mmodels Mopen Mat Mrows Mx) H → va_D A (wM k aM Mestimate Munit Msort Mwidth Mmany Mreading Mvariance Mcovariance Mline Mformulas Mroot Mkind Mone Mother Msigns Mplace MleftOf MrightOf Mtype Msum Msign MsignAt Mproduct Mvalue Mslope Mexponent Mdrawn Mslopes Mfrom Mfactor Mthrown Mlength Mmodels Mopen Mat Mrows Mx) → va_S A s.heap H locs → lv_has ls 3 [] → W p l e rmX7_reads s m args below meth c H locs 0 0 Q (F0 m 288 ls [])) (E293 : (Nat → Int32) → (Nat → Int32) → (Nat → Int32) → (Nat → Int32) → (Nat → Int32) → (Nat → Int32) → (Nat → Int32) → (Nat → Int32) → (Nat → Int32) → (Nat → Int32) → (Nat → Int32) → (Nat → Int32) → (Nat → Int32) → Int32 → Int32 → Option (Int32 × (Nat → Int32) × (Nat → Int32) × (Nat → Int32) × (Nat → Int32) × (Nat → Int32) × (Nat → Int32) × (Nat → Int32) × (Nat → Int32) × (Nat → Int32) × (Nat → Int32) × (Nat → Int32) × (Nat → Int32) × (Nat → Int32) × Int32 × Int32)) (hE293 : ∀ (Mformulas : Nat → Int32) (Mkind : Nat → Int32) (Mone : Nat → Int32) (Mother : Nat → Int32) (Msigns : Nat → Int32) (Mplace : Nat → Int32) (MleftOf : Nat → Int32) (MrightOf : Nat → Int32) (Mtype : Nat → Int32) (Msum : Nat → Int32) (Msign : Nat → Int32) (MsignAt : Nat → Int32) (Mproduct : Nat → Int32) (Mopen : Int32) (Mat : Int32), E293 Mformulas Mkind Mone Mother Msigns Mplace MleftOf MrightOf Mtype Msum Msign MsignAt Mproduct Mopen Mat = some (r, RMformulas, RMkind, RMone, RMother, RMsigns, RMplace, RMleftOf, RMrightOf, RMtype, RMsum, RMsign, RMsignAt, RMproduct, RMopen, RMat) → ∀ (H : Heap) (locs : List Loc) (ls : Array Slot), va_P D vwCl (wM k aM Mestimate Munit Msort Mwidth Mmany Mreading Mvariance Mcovariance Mline Mformulas Mroot Mkind Mone Mother Msigns Mplace MleftOf MrightOf Mtype Msum Msign MsignAt Mproduct Mvalue Mslope Mexponent Mdrawn Mslopes Mfrom Mfactor Mthrown Mlength Mmodels Mopen Mat Mrows Mx) H → va_D A (wM k aM Mestimate Munit Msort Mwidth Mmany Mreading Mvariance Mcovariance Mline Mformulas Mroot Mkind Mone Mother Msigns Mplace MleftOf MrightOf Mtype Msum Msign MsignAt Mproduct Mvalue Mslope Mexponent Mdrawn Mslopes Mfrom Mfactor Mthrown Mlength Mmodels Mopen Mat Mrows Mx) → va_S A s.heap H locs → lv_has ls 3 [] → W p l e rmX7_reads s m args below meth c H locs 0 0 Q (F0 m 293 ls [])) (n : Nat) (Mformulas : Nat → Int32) (Mkind : Nat → Int32) (Mone : Nat → Int32) (Mother : Nat → Int32) (Msigns : Nat → Int32) (Mplace : Nat → Int32) (MleftOf : Nat → Int32) (MrightOf : Nat → Int32) (Mtype : Nat → Int32) (Msum : Nat → Int32) (Msign : Nat → Int32) (MsignAt : Nat → Int32) (Mproduct : Nat → Int32) (Mopen : Int32) (Mat : Int32), LX7_reads_47 Mline Mlength E246 E259 E288 E293 n Mformulas Mkind Mone Mother Msigns Mplace MleftOf MrightOf Mtype Msum Msign MsignAt Mproduct Mopen Mat = some (r, RMformulas, RMkind, RMone, RMother, RMsigns, RMplace, RMleftOf, RMrightOf, RMtype, RMsum, RMsign, RMsignAt, RMproduct, RMopen, RMat) → ∀ (H : Heap) (locs : List Loc) (ls : Array Slot), va_P D vwCl (wM k aM Mestimate Munit Msort Mwidth Mmany Mreading Mvariance Mcovariance Mline Mformulas Mroot Mkind Mone Mother Msigns Mplace MleftOf MrightOf Mtype Msum Msign MsignAt Mproduct Mvalue Mslope Mexponent Mdrawn Mslopes Mfrom Mfactor Mthrown Mlength Mmodels Mopen Mat Mrows Mx) H → va_D A (wM k aM Mestimate Munit Msort Mwidth Mmany Mreading Mvariance Mcovariance Mline Mformulas Mroot Mkind Mone Mother Msigns Mplace MleftOf MrightOf Mtype Msum Msign MsignAt Mproduct Mvalue Mslope Mexponent Mdrawn Mslopes Mfrom Mfactor Mthrown Mlength Mmodels Mopen Mat Mrows Mx) → va_S A s.heap H locs → lv_has ls 3 [(0, .ref (aM 0))] → W p l e rmX7_reads s m args below meth c H locs 0 0 Q (F0 m 47 ls []) := by
    intro E246 hE246 E259 hE259 E288 hE288 E293 hE293 n
    induction n with
    | zero => intro Mformulas Mkind Mone Mother Msigns Mplace MleftOf MrightOf Mtype Msum Msign MsignAt Mproduct Mopen Mat h; simp [LX7_reads_47] at h
    | succ n ih =>
    intro Mformulas Mkind Mone Mother Msigns Mplace MleftOf MrightOf Mtype Msum Msign MsignAt Mproduct Mopen Mat h H locs ls hP hD hS hl
    rw [LX7_reads_47] at h
    refine lv_aload_n hx hb dX7_reads_47 rfl (lv_at hl 0 rfl) ?_
    obtain ⟨r6, type__6, sum_6, product_6, open__6, at__6, hc6, h⟩ := bnd6_inv h
    have hFc := va_free (wc := (wM k aM Mestimate Munit Msort Mwidth Mmany Mreading Mvariance Mcovariance Mline Mformulas Mroot Mkind Mone Mother Msigns Mplace MleftOf MrightOf Mtype Msum Msign MsignAt Mproduct Mvalue Mslope Mexponent Mdrawn Mslopes Mfrom Mfactor Mthrown Mlength Mmodels Mopen Mat Mrows Mx)) hD hS hA [0, 1, 2, 3, 4, 5, 6, 7, 8, 9, 10, 11, 12, 13, 14, 15, 16, 17, 18, 19, 20, 21, 22, 23, 24, 25, 26, 27, 28, 29, 30] rfl
    refine xc_i (va_runV (As := []) (rest := []) ⟨hx, hb, hml, hown, hts⟩ (met_X7_begins l D k  aM H.size Mestimate Munit Msort Mwidth Mmany Mreading Mvariance Mcovariance Mline Mformulas Mroot Mkind Mone Mother Msigns Mplace MleftOf MrightOf Mtype Msum Msign MsignAt Mproduct Mvalue Mslope Mexponent Mdrawn Mslopes Mfrom Mfactor Mthrown Mlength Mmodels Mopen Mat Mrows Mx r6 type__6 sum_6 product_6 open__6 at__6 hc6) (cwV 0 hts gX7_reads_X7_begins rfl rfl rfl (by decide +kernel) ⟨Nat.le_of_ble_eq_true rfl, Nat.le_of_ble_eq_true rfl⟩) ⟨pw_blind, va_recv hK hP (ci := 7) (q0 := 0) rfl rfl, pw_start hP hK hD⟩ rfl rfl hl.1 rfl (lv_room (Nat.le_of_ble_eq_true rfl)) dX7_reads_48 ⟨Nat.zero_le _, Nat.zero_le _⟩) hS hFc (fun H1 locs hP1 hD1 hk1 hS => ?_)
    obtain ⟨hP, hD⟩ := vj_all hFc hP1 hD1
    clear hP1 hD1 hk1 hFc
    generalize H1 = H at hP hS ⊢
    refine lv_if_eq (tgt := 293) hx hb dX7_reads_51 (by decide) (fun c7 => ?_) (fun c7 => ?_)
    · replace h := sf_t c7 h
      exact hE293 _ _ _ _ _ _ _ _ _ _ _ _ _ _ _ h _ _ _ hP hD hS (lv_sub hl [] rfl)
    · replace h := sf_f c7 h
      refine lv_aload_n hx hb dX7_reads_54 rfl (lv_at hl 0 rfl) ?_
      refine lv_aload_n hx hb dX7_reads_55 rfl (lv_at hl 0 rfl) ?_
      obtain ⟨r8, formulas_8, kind_8, one_8, other_8, at__8, hc8, h⟩ := bnd6_inv h
      have hFc := va_free (wc := (wM k aM Mestimate Munit Msort Mwidth Mmany Mreading Mvariance Mcovariance Mline Mformulas Mroot Mkind Mone Mother Msigns Mplace MleftOf MrightOf type__6 sum_6 Msign MsignAt product_6 Mvalue Mslope Mexponent Mdrawn Mslopes Mfrom Mfactor Mthrown Mlength Mmodels open__6 at__6 Mrows Mx)) hD hS hA [0, 1, 2, 3, 4, 5, 6, 7, 8, 9, 10, 11, 12, 13, 14, 15, 16, 17, 18, 19, 20, 21, 22, 23, 24, 25, 26, 27, 28, 29, 30] rfl
      refine xc_i (va_runV (As := []) (rest := [.ref (aM 0)]) ⟨hx, hb, hml, hown, hts⟩ (met_X7_atom l D k  aM H.size Mestimate Munit Msort Mwidth Mmany Mreading Mvariance Mcovariance Mline Mformulas Mroot Mkind Mone Mother Msigns Mplace MleftOf MrightOf type__6 sum_6 Msign MsignAt product_6 Mvalue Mslope Mexponent Mdrawn Mslopes Mfrom Mfactor Mthrown Mlength Mmodels open__6 at__6 Mrows Mx r8 formulas_8 kind_8 one_8 other_8 at__8 hc8) (cwV 0 hts gX7_reads_X7_atom rfl rfl rfl (by decide +kernel) ⟨Nat.le_of_ble_eq_true rfl, Nat.le_of_ble_eq_true rfl⟩) ⟨pw_blind, va_recv hK hP (ci := 7) (q0 := 0) rfl rfl, pw_start hP hK hD⟩ rfl rfl hl.1 rfl (lv_room (Nat.le_of_ble_eq_true rfl)) dX7_reads_56 ⟨Nat.zero_le _, Nat.zero_le _⟩) hS hFc (fun H1 locs hP1 hD1 hk1 hS => ?_)
      obtain ⟨hP, hD⟩ := vj_all hFc hP1 hD1
      clear hP1 hD1 hk1 hFc
      generalize H1 = H at hP hS ⊢
      obtain ⟨r9, formulas_9, kind_9, one_9, other_9, at__9, hc9, h⟩ := bnd6_inv h
      have hFc := va_free (wc := (wM k aM Mestimate Munit Msort Mwidth Mmany Mreading Mvariance Mcovariance Mline formulas_8 Mroot kind_8 one_8 other_8 Msigns Mplace MleftOf MrightOf type__6 sum_6 Msign MsignAt product_6 Mvalue Mslope Mexponent Mdrawn Mslopes Mfrom Mfactor Mthrown Mlength Mmodels open__6 at__8 Mrows Mx)) hD hS hA [0, 1, 2, 3, 4, 5, 6, 7, 8, 9, 10, 11, 12, 13, 14, 15, 16, 17, 18, 19, 20, 21, 22, 23, 24, 25, 26, 27, 28, 29, 30] rfl
      refine xc_i (va_runV (As := [.int r8]) (rest := []) ⟨hx, hb, hml, hown, hts⟩ (met_X7_power l D k  aM H.size Mestimate Munit Msort Mwidth Mmany Mreading Mvariance Mcovariance Mline formulas_8 Mroot kind_8 one_8 other_8 Msigns Mplace MleftOf MrightOf type__6 sum_6 Msign MsignAt product_6 Mvalue Mslope Mexponent Mdrawn Mslopes Mfrom Mfactor Mthrown Mlength Mmodels open__6 at__8 Mrows Mx r8 r9 formulas_9 kind_9 one_9 other_9 at__9 hc9) (cwV 1 hts gX7_reads_X7_power rfl rfl rfl (by decide +kernel) ⟨Nat.le_of_ble_eq_true rfl, Nat.le_of_ble_eq_true rfl⟩) ⟨pw_blind, va_recv hK hP (ci := 7) (q0 := 0) rfl rfl, pw_start hP hK hD⟩ rfl rfl hl.1 rfl (lv_room (Nat.le_of_ble_eq_true rfl)) dX7_reads_59 ⟨Nat.zero_le _, Nat.zero_le _⟩) hS hFc (fun H1 locs hP1 hD1 hk1 hS => ?_)
      obtain ⟨hP, hD⟩ := vj_all hFc hP1 hD1
      clear hP1 hD1 hk1 hFc
      generalize H1 = H at hP hS ⊢
      refine lv_istore_n (lv' := [(1, .int r9), (0, .ref (aM 0))]) hx hb dX7_reads_62 rfl hl (by decide) rfl (fun ls hl => ?_)
      refine lv_iload_n hx hb dX7_reads_63 rfl (lv_at hl 0 rfl) ?_
      refine lv_iconst (v := -1) hx hb dX7_reads_64 (by decide) ?_
      refine lv_icmp_eq (tgt := 72) hx hb dX7_reads_65 (by decide) (fun c10 => ?_) (fun c10 => ?_)
      · replace h := sf_t c10 h
        refine lv_iconst (v := 0) hx hb dX7_reads_72 (by decide) ?_
        refine lv_istore_n (lv' := [(2, .int 0), (1, .int r9), (0, .ref (aM 0))]) hx hb dX7_reads_73 rfl hl (by decide) rfl (fun ls hl => ?_)
        refine LH_74 _ (fun v1 Mformulas Mkind Mone Mother Msigns Mplace MleftOf MrightOf Mtype Msum Msign MsignAt Mproduct Mopen Mat h H locs ls hP hD hS hl => ?_) _ _ _ _ _ _ _ _ _ _ _ _ _ _ _ _ _ _ h _ _ _ hP hD hS (lv_sub hl [2, 1, 0] rfl)
        · skip
          refine lv_iload_n hx hb dX7_reads_241 rfl (lv_at hl 1 rfl) ?_
          refine lv_iconst (v := -1) hx hb dX7_reads_242 (by decide) ?_
          refine lv_icmp_ne (tgt := 248) hx hb dX7_reads_243 (by decide) (fun c29 => ?_) (fun c29 => ?_)
          · replace h := sf_f c29 h
            refine lv_aload_n hx hb dX7_reads_248 rfl (lv_at hl 0 rfl) ?_
            refine va_get (D := D) (ci := 7) (v := .int Mat) (C := RX7) (T := TX7) (N := 37) hx hb hts iX7 hown hK hP 0 rfl rfl 27 (by decide) f139 (fun _ h9 => h9) rfl dX7_reads_249 ?_
            refine lv_aload_n hx hb dX7_reads_252 rfl (lv_at hl 0 rfl) ?_
            refine va_get (D := D) (ci := 7) (v := .int Mlength) (C := RX7) (T := TX7) (N := 37) hx hb hts iX7 hown hK hP 0 rfl rfl 10 (by decide) f136 (fun _ h9 => h9) rfl dX7_reads_253 ?_
            refine lv_icmp_ne (tgt := 281) hx hb dX7_reads_256 (by decide) (fun c30 => ?_) (fun c30 => ?_)
            · replace h := sf_f c30 h
              refine lv_aload_n hx hb dX7_reads_281 rfl (lv_at hl 0 rfl) ?_
              obtain ⟨r31, formulas_31, kind_31, one_31, other_31, signs_31, place_31, leftOf_31, rightOf_31, sum_31, sign_31, signAt_31, product_31, at__31, hc31, h⟩ := bnd14_inv h
              have hFc := va_free (wc := (wM k aM Mestimate Munit Msort Mwidth Mmany Mreading Mvariance Mcovariance Mline Mformulas Mroot Mkind Mone Mother Msigns Mplace MleftOf MrightOf Mtype Msum Msign MsignAt Mproduct Mvalue Mslope Mexponent Mdrawn Mslopes Mfrom Mfactor Mthrown Mlength Mmodels Mopen Mat Mrows Mx)) hD hS hA [0, 1, 2, 3, 4, 5, 6, 7, 8, 9, 10, 11, 12, 13, 14, 15, 16, 17, 18, 19, 20, 21, 22, 23, 24, 25, 26, 27, 28, 29, 30] rfl
              refine xc_i (va_runV (As := []) (rest := []) ⟨hx, hb, hml, hown, hts⟩ (met_X7_follows l D k  aM H.size Mestimate Munit Msort Mwidth Mmany Mreading Mvariance Mcovariance Mline Mformulas Mroot Mkind Mone Mother Msigns Mplace MleftOf MrightOf Mtype Msum Msign MsignAt Mproduct Mvalue Mslope Mexponent Mdrawn Mslopes Mfrom Mfactor Mthrown Mlength Mmodels Mopen Mat Mrows Mx r31 formulas_31 kind_31 one_31 other_31 signs_31 place_31 leftOf_31 rightOf_31 sum_31 sign_31 signAt_31 product_31 at__31 hc31) (cwV 0 hts gX7_reads_X7_follows rfl rfl rfl (by decide +kernel) ⟨Nat.le_of_ble_eq_true rfl, Nat.le_of_ble_eq_true rfl⟩) ⟨pw_blind, va_recv hK hP (ci := 7) (q0 := 0) rfl rfl, pw_start hP hK hD⟩ rfl rfl hl.1 rfl (lv_room (Nat.le_of_ble_eq_true rfl)) dX7_reads_282 ⟨Nat.zero_le _, Nat.zero_le _⟩) hS hFc (fun H1 locs hP1 hD1 hk1 hS => ?_)
              obtain ⟨hP, hD⟩ := vj_all hFc hP1 hD1
              clear hP1 hD1 hk1 hFc
              generalize H1 = H at hP hS ⊢
              refine lv_if_ne (tgt := 290) hx hb dX7_reads_285 (by decide) (fun c32 => ?_) (fun c32 => ?_)
              · replace h := sf_f c32 h
                refine lv_goto (tgt := 47) hx hb dX7_reads_290 (by decide) ?_
                exact ih _ _ _ _ _ _ _ _ _ _ _ _ _ _ _ h _ _ _ hP hD hS (lv_sub hl [0] rfl)
              · replace h := sf_t c32 h
                exact hE288 _ _ _ _ _ _ _ _ _ _ _ _ _ _ _ h _ _ _ hP hD hS (lv_sub hl [] rfl)
            · replace h := sf_t c30 h
              exact hE259 _ _ _ _ _ _ _ _ _ _ _ _ _ _ _ h _ _ _ hP hD hS (lv_sub hl [0] rfl)
          · replace h := sf_t c29 h
            exact hE246 _ _ _ _ _ _ _ _ _ _ _ _ _ _ _ h _ _ _ hP hD hS (lv_sub hl [] rfl)
      · replace h := sf_f c10 h
        refine lv_iconst (v := 1) hx hb dX7_reads_68 (by decide) ?_
        refine lv_goto (tgt := 73) hx hb dX7_reads_69 (by decide) ?_
        refine lv_istore_n (lv' := [(2, .int 1), (1, .int r9), (0, .ref (aM 0))]) hx hb dX7_reads_73 rfl hl (by decide) rfl (fun ls hl => ?_)
        refine LH_74 _ (fun v1 Mformulas Mkind Mone Mother Msigns Mplace MleftOf MrightOf Mtype Msum Msign MsignAt Mproduct Mopen Mat h H locs ls hP hD hS hl => ?_) _ _ _ _ _ _ _ _ _ _ _ _ _ _ _ _ _ _ h _ _ _ hP hD hS (lv_sub hl [2, 1, 0] rfl)
        · skip
          refine lv_iload_n hx hb dX7_reads_241 rfl (lv_at hl 1 rfl) ?_
          refine lv_iconst (v := -1) hx hb dX7_reads_242 (by decide) ?_
          refine lv_icmp_ne (tgt := 248) hx hb dX7_reads_243 (by decide) (fun c33 => ?_) (fun c33 => ?_)
          · replace h := sf_f c33 h
            refine lv_aload_n hx hb dX7_reads_248 rfl (lv_at hl 0 rfl) ?_
            refine va_get (D := D) (ci := 7) (v := .int Mat) (C := RX7) (T := TX7) (N := 37) hx hb hts iX7 hown hK hP 0 rfl rfl 27 (by decide) f139 (fun _ h9 => h9) rfl dX7_reads_249 ?_
            refine lv_aload_n hx hb dX7_reads_252 rfl (lv_at hl 0 rfl) ?_
            refine va_get (D := D) (ci := 7) (v := .int Mlength) (C := RX7) (T := TX7) (N := 37) hx hb hts iX7 hown hK hP 0 rfl rfl 10 (by decide) f136 (fun _ h9 => h9) rfl dX7_reads_253 ?_
            refine lv_icmp_ne (tgt := 281) hx hb dX7_reads_256 (by decide) (fun c34 => ?_) (fun c34 => ?_)
            · replace h := sf_f c34 h
              refine lv_aload_n hx hb dX7_reads_281 rfl (lv_at hl 0 rfl) ?_
              obtain ⟨r35, formulas_35, kind_35, one_35, other_35, signs_35, place_35, leftOf_35, rightOf_35, sum_35, sign_35, signAt_35, product_35, at__35, hc35, h⟩ := bnd14_inv h
              have hFc := va_free (wc := (wM k aM Mestimate Munit Msort Mwidth Mmany Mreading Mvariance Mcovariance Mline Mformulas Mroot Mkind Mone Mother Msigns Mplace MleftOf MrightOf Mtype Msum Msign MsignAt Mproduct Mvalue Mslope Mexponent Mdrawn Mslopes Mfrom Mfactor Mthrown Mlength Mmodels Mopen Mat Mrows Mx)) hD hS hA [0, 1, 2, 3, 4, 5, 6, 7, 8, 9, 10, 11, 12, 13, 14, 15, 16, 17, 18, 19, 20, 21, 22, 23, 24, 25, 26, 27, 28, 29, 30] rfl
              refine xc_i (va_runV (As := []) (rest := []) ⟨hx, hb, hml, hown, hts⟩ (met_X7_follows l D k  aM H.size Mestimate Munit Msort Mwidth Mmany Mreading Mvariance Mcovariance Mline Mformulas Mroot Mkind Mone Mother Msigns Mplace MleftOf MrightOf Mtype Msum Msign MsignAt Mproduct Mvalue Mslope Mexponent Mdrawn Mslopes Mfrom Mfactor Mthrown Mlength Mmodels Mopen Mat Mrows Mx r35 formulas_35 kind_35 one_35 other_35 signs_35 place_35 leftOf_35 rightOf_35 sum_35 sign_35 signAt_35 product_35 at__35 hc35) (cwV 0 hts gX7_reads_X7_follows rfl rfl rfl (by decide +kernel) ⟨Nat.le_of_ble_eq_true rfl, Nat.le_of_ble_eq_true rfl⟩) ⟨pw_blind, va_recv hK hP (ci := 7) (q0 := 0) rfl rfl, pw_start hP hK hD⟩ rfl rfl hl.1 rfl (lv_room (Nat.le_of_ble_eq_true rfl)) dX7_reads_282 ⟨Nat.zero_le _, Nat.zero_le _⟩) hS hFc (fun H1 locs hP1 hD1 hk1 hS => ?_)
              obtain ⟨hP, hD⟩ := vj_all hFc hP1 hD1
              clear hP1 hD1 hk1 hFc
              generalize H1 = H at hP hS ⊢
              refine lv_if_ne (tgt := 290) hx hb dX7_reads_285 (by decide) (fun c36 => ?_) (fun c36 => ?_)
              · replace h := sf_f c36 h
                refine lv_goto (tgt := 47) hx hb dX7_reads_290 (by decide) ?_
                exact ih _ _ _ _ _ _ _ _ _ _ _ _ _ _ _ h _ _ _ hP hD hS (lv_sub hl [0] rfl)
              · replace h := sf_t c36 h
                exact hE288 _ _ _ _ _ _ _ _ _ _ _ _ _ _ _ h _ _ _ hP hD hS (lv_sub hl [] rfl)
            · replace h := sf_t c34 h
              exact hE259 _ _ _ _ _ _ _ _ _ _ _ _ _ _ _ h _ _ _ hP hD hS (lv_sub hl [0] rfl)
          · replace h := sf_t c33 h
            exact hE246 _ _ _ _ _ _ _ _ _ _ _ _ _ _ _ h _ _ _ hP hD hS (lv_sub hl [] rfl)
  suffices main : ∀ (H : Heap) (locs : List Loc) (ls : Array Slot), va_P D vwCl (wM k aM Mestimate Munit Msort Mwidth Mmany Mreading Mvariance Mcovariance Mline Mformulas Mroot Mkind Mone Mother Msigns Mplace MleftOf MrightOf Mtype Msum Msign MsignAt Mproduct Mvalue Mslope Mexponent Mdrawn Mslopes Mfrom Mfactor Mthrown Mlength Mmodels Mopen Mat Mrows Mx) H → va_D A (wM k aM Mestimate Munit Msort Mwidth Mmany Mreading Mvariance Mcovariance Mline Mformulas Mroot Mkind Mone Mother Msigns Mplace MleftOf MrightOf Mtype Msum Msign MsignAt Mproduct Mvalue Mslope Mexponent Mdrawn Mslopes Mfrom Mfactor Mthrown Mlength Mmodels Mopen Mat Mrows Mx) → va_S A s.heap H locs → lv_has ls 3 [(0, .ref (aM 0))] → W p l e rmX7_reads s m args below meth c H locs 0 0 Q (F0 m 0 ls []) from main _ _ _ hP hD hS hl
  clear hP hD hS hl ls hAe
  intro H locs ls hP hD hS hl
  refine lv_aload_n hx hb dX7_reads_0 rfl (lv_at hl 0 rfl) ?_
  refine lv_iconst (v := 0) hx hb dX7_reads_1 (by decide) ?_
  refine va_put (D := D) (ci := 7) (v := .int 0) (ty := .int) (C := RX7) (T := TX7) (N := 37) hx hb hts iX7 tyX7 tyX7_ok nmX7 hown hK hP hD hS 0 rfl rfl 27 (by decide) f139 (fun _ h9 => h9) rfl (by decide +kernel) rfl rfl (Nat.le_of_ble_eq_true rfl) dX7_reads_2 (fun H locs hP hD hS => ?_)
  replace hP : va_P D vwCl (wM k aM Mestimate Munit Msort Mwidth Mmany Mreading Mvariance Mcovariance Mline Mformulas Mroot Mkind Mone Mother Msigns Mplace MleftOf MrightOf Mtype Msum Msign MsignAt Mproduct Mvalue Mslope Mexponent Mdrawn Mslopes Mfrom Mfactor Mthrown Mlength Mmodels Mopen 0 Mrows Mx) H := hP
  replace hD : va_D A (wM k aM Mestimate Munit Msort Mwidth Mmany Mreading Mvariance Mcovariance Mline Mformulas Mroot Mkind Mone Mother Msigns Mplace MleftOf MrightOf Mtype Msum Msign MsignAt Mproduct Mvalue Mslope Mexponent Mdrawn Mslopes Mfrom Mfactor Mthrown Mlength Mmodels Mopen 0 Mrows Mx) := hD
  refine lv_aload_n hx hb dX7_reads_5 rfl (lv_at hl 0 rfl) ?_
  refine lv_iconst (v := 0) hx hb dX7_reads_6 (by decide) ?_
  refine va_put (D := D) (ci := 7) (v := .int 0) (ty := .int) (C := RX7) (T := TX7) (N := 37) hx hb hts iX7 tyX7 tyX7_ok nmX7 hown hK hP hD hS 0 rfl rfl 21 (by decide) f142 (fun _ h9 => h9) rfl (by decide +kernel) rfl rfl (Nat.le_of_ble_eq_true rfl) dX7_reads_7 (fun H locs hP hD hS => ?_)
  replace hP : va_P D vwCl (wM k aM Mestimate Munit Msort Mwidth Mmany Mreading Mvariance Mcovariance Mline Mformulas Mroot Mkind Mone Mother Msigns Mplace MleftOf MrightOf Mtype Msum Msign MsignAt Mproduct Mvalue Mslope Mexponent Mdrawn Mslopes Mfrom Mfactor Mthrown Mlength Mmodels 0 0 Mrows Mx) H := hP
  replace hD : va_D A (wM k aM Mestimate Munit Msort Mwidth Mmany Mreading Mvariance Mcovariance Mline Mformulas Mroot Mkind Mone Mother Msigns Mplace MleftOf MrightOf Mtype Msum Msign MsignAt Mproduct Mvalue Mslope Mexponent Mdrawn Mslopes Mfrom Mfactor Mthrown Mlength Mmodels 0 0 Mrows Mx) := hD
  refine lv_aload_n hx hb dX7_reads_10 rfl (lv_at hl 0 rfl) ?_
  refine va_get (D := D) (ci := 7) (v := .ref (aM 10)) (C := RX7) (T := TX7) (N := 37) hx hb hts iX7 hown hK hP 0 rfl rfl 12 (by decide) f37 (fun _ h9 => h9) rfl dX7_reads_11 ?_
  refine lv_bipush (v := 8) hx hb dX7_reads_14 (by decide) ?_
  refine lv_iconst (v := 0) hx hb dX7_reads_16 (by decide) ?_
  obtain ⟨hi1, h⟩ := gi_inv h
  refine va_iast hx hb hK hP hD hS 10 0 rfl rfl hi1 dX7_reads_17 (fun H locs hP hD hS => ?_)
  replace hP : va_P D vwCl (wM k aM Mestimate Munit Msort Mwidth Mmany Mreading Mvariance Mcovariance Mline (upd Mformulas ((8 : Int32).toNatClampNeg) 0) Mroot Mkind Mone Mother Msigns Mplace MleftOf MrightOf Mtype Msum Msign MsignAt Mproduct Mvalue Mslope Mexponent Mdrawn Mslopes Mfrom Mfactor Mthrown Mlength Mmodels 0 0 Mrows Mx) H := hP
  replace hD : va_D A (wM k aM Mestimate Munit Msort Mwidth Mmany Mreading Mvariance Mcovariance Mline (upd Mformulas ((8 : Int32).toNatClampNeg) 0) Mroot Mkind Mone Mother Msigns Mplace MleftOf MrightOf Mtype Msum Msign MsignAt Mproduct Mvalue Mslope Mexponent Mdrawn Mslopes Mfrom Mfactor Mthrown Mlength Mmodels 0 0 Mrows Mx) := hD
  refine lv_aload_n hx hb dX7_reads_18 rfl (lv_at hl 0 rfl) ?_
  refine va_get (D := D) (ci := 7) (v := .ref (aM 15)) (C := RX7) (T := TX7) (N := 37) hx hb hts iX7 hown hK hP 0 rfl rfl 17 (by decide) f52 (fun _ h9 => h9) rfl dX7_reads_19 ?_
  refine lv_bipush (v := 8) hx hb dX7_reads_22 (by decide) ?_
  refine lv_iconst (v := 0) hx hb dX7_reads_24 (by decide) ?_
  obtain ⟨hi2, h⟩ := gi_inv h
  refine va_iast hx hb hK hP hD hS 15 0 rfl rfl hi2 dX7_reads_25 (fun H locs hP hD hS => ?_)
  replace hP : va_P D vwCl (wM k aM Mestimate Munit Msort Mwidth Mmany Mreading Mvariance Mcovariance Mline (upd Mformulas ((8 : Int32).toNatClampNeg) 0) Mroot Mkind Mone Mother (upd Msigns ((8 : Int32).toNatClampNeg) 0) Mplace MleftOf MrightOf Mtype Msum Msign MsignAt Mproduct Mvalue Mslope Mexponent Mdrawn Mslopes Mfrom Mfactor Mthrown Mlength Mmodels 0 0 Mrows Mx) H := hP
  replace hD : va_D A (wM k aM Mestimate Munit Msort Mwidth Mmany Mreading Mvariance Mcovariance Mline (upd Mformulas ((8 : Int32).toNatClampNeg) 0) Mroot Mkind Mone Mother (upd Msigns ((8 : Int32).toNatClampNeg) 0) Mplace MleftOf MrightOf Mtype Msum Msign MsignAt Mproduct Mvalue Mslope Mexponent Mdrawn Mslopes Mfrom Mfactor Mthrown Mlength Mmodels 0 0 Mrows Mx) := hD
  refine lv_aload_n hx hb dX7_reads_26 rfl (lv_at hl 0 rfl) ?_
  refine va_get (D := D) (ci := 7) (v := .ref (aM 19)) (C := RX7) (T := TX7) (N := 37) hx hb hts iX7 hown hK hP 0 rfl rfl 22 (by decide) f64 (fun _ h9 => h9) rfl dX7_reads_27 ?_
  refine lv_iconst (v := 0) hx hb dX7_reads_30 (by decide) ?_
  refine lv_iconst (v := 0) hx hb dX7_reads_31 (by decide) ?_
  obtain ⟨hi3, h⟩ := gi_inv h
  refine va_iast hx hb hK hP hD hS 19 0 rfl rfl hi3 dX7_reads_32 (fun H locs hP hD hS => ?_)
  replace hP : va_P D vwCl (wM k aM Mestimate Munit Msort Mwidth Mmany Mreading Mvariance Mcovariance Mline (upd Mformulas ((8 : Int32).toNatClampNeg) 0) Mroot Mkind Mone Mother (upd Msigns ((8 : Int32).toNatClampNeg) 0) Mplace MleftOf MrightOf (upd Mtype ((0 : Int32).toNatClampNeg) 0) Msum Msign MsignAt Mproduct Mvalue Mslope Mexponent Mdrawn Mslopes Mfrom Mfactor Mthrown Mlength Mmodels 0 0 Mrows Mx) H := hP
  replace hD : va_D A (wM k aM Mestimate Munit Msort Mwidth Mmany Mreading Mvariance Mcovariance Mline (upd Mformulas ((8 : Int32).toNatClampNeg) 0) Mroot Mkind Mone Mother (upd Msigns ((8 : Int32).toNatClampNeg) 0) Mplace MleftOf MrightOf (upd Mtype ((0 : Int32).toNatClampNeg) 0) Msum Msign MsignAt Mproduct Mvalue Mslope Mexponent Mdrawn Mslopes Mfrom Mfactor Mthrown Mlength Mmodels 0 0 Mrows Mx) := hD
  refine lv_aload_n hx hb dX7_reads_33 rfl (lv_at hl 0 rfl) ?_
  refine va_get (D := D) (ci := 7) (v := .ref (aM 20)) (C := RX7) (T := TX7) (N := 37) hx hb hts iX7 hown hK hP 0 rfl rfl 23 (by decide) f67 (fun _ h9 => h9) rfl dX7_reads_34 ?_
  refine lv_iconst (v := 0) hx hb dX7_reads_37 (by decide) ?_
  refine lv_iconst (v := -1) hx hb dX7_reads_38 (by decide) ?_
  obtain ⟨hi4, h⟩ := gi_inv h
  refine va_iast hx hb hK hP hD hS 20 0 rfl rfl hi4 dX7_reads_39 (fun H locs hP hD hS => ?_)
  replace hP : va_P D vwCl (wM k aM Mestimate Munit Msort Mwidth Mmany Mreading Mvariance Mcovariance Mline (upd Mformulas ((8 : Int32).toNatClampNeg) 0) Mroot Mkind Mone Mother (upd Msigns ((8 : Int32).toNatClampNeg) 0) Mplace MleftOf MrightOf (upd Mtype ((0 : Int32).toNatClampNeg) 0) (upd Msum ((0 : Int32).toNatClampNeg) ((-1))) Msign MsignAt Mproduct Mvalue Mslope Mexponent Mdrawn Mslopes Mfrom Mfactor Mthrown Mlength Mmodels 0 0 Mrows Mx) H := hP
  replace hD : va_D A (wM k aM Mestimate Munit Msort Mwidth Mmany Mreading Mvariance Mcovariance Mline (upd Mformulas ((8 : Int32).toNatClampNeg) 0) Mroot Mkind Mone Mother (upd Msigns ((8 : Int32).toNatClampNeg) 0) Mplace MleftOf MrightOf (upd Mtype ((0 : Int32).toNatClampNeg) 0) (upd Msum ((0 : Int32).toNatClampNeg) ((-1))) Msign MsignAt Mproduct Mvalue Mslope Mexponent Mdrawn Mslopes Mfrom Mfactor Mthrown Mlength Mmodels 0 0 Mrows Mx) := hD
  refine lv_aload_n hx hb dX7_reads_40 rfl (lv_at hl 0 rfl) ?_
  refine va_get (D := D) (ci := 7) (v := .ref (aM 23)) (C := RX7) (T := TX7) (N := 37) hx hb hts iX7 hown hK hP 0 rfl rfl 26 (by decide) f76 (fun _ h9 => h9) rfl dX7_reads_41 ?_
  refine lv_iconst (v := 0) hx hb dX7_reads_44 (by decide) ?_
  refine lv_iconst (v := -1) hx hb dX7_reads_45 (by decide) ?_
  obtain ⟨hi5, h⟩ := gi_inv h
  refine va_iast hx hb hK hP hD hS 23 0 rfl rfl hi5 dX7_reads_46 (fun H locs hP hD hS => ?_)
  replace hP : va_P D vwCl (wM k aM Mestimate Munit Msort Mwidth Mmany Mreading Mvariance Mcovariance Mline (upd Mformulas ((8 : Int32).toNatClampNeg) 0) Mroot Mkind Mone Mother (upd Msigns ((8 : Int32).toNatClampNeg) 0) Mplace MleftOf MrightOf (upd Mtype ((0 : Int32).toNatClampNeg) 0) (upd Msum ((0 : Int32).toNatClampNeg) ((-1))) Msign MsignAt (upd Mproduct ((0 : Int32).toNatClampNeg) ((-1))) Mvalue Mslope Mexponent Mdrawn Mslopes Mfrom Mfactor Mthrown Mlength Mmodels 0 0 Mrows Mx) H := hP
  replace hD : va_D A (wM k aM Mestimate Munit Msort Mwidth Mmany Mreading Mvariance Mcovariance Mline (upd Mformulas ((8 : Int32).toNatClampNeg) 0) Mroot Mkind Mone Mother (upd Msigns ((8 : Int32).toNatClampNeg) 0) Mplace MleftOf MrightOf (upd Mtype ((0 : Int32).toNatClampNeg) 0) (upd Msum ((0 : Int32).toNatClampNeg) ((-1))) Msign MsignAt (upd Mproduct ((0 : Int32).toNatClampNeg) ((-1))) Mvalue Mslope Mexponent Mdrawn Mslopes Mfrom Mfactor Mthrown Mlength Mmodels 0 0 Mrows Mx) := hD
  refine LH_47 _ (fun Mformulas Mkind Mone Mother Msigns Mplace MleftOf MrightOf Mtype Msum Msign MsignAt Mproduct Mopen Mat h H locs ls hP hD hS hl => ?_) _ (fun Mformulas Mkind Mone Mother Msigns Mplace MleftOf MrightOf Mtype Msum Msign MsignAt Mproduct Mopen Mat h H locs ls hP hD hS hl => ?_) _ (fun Mformulas Mkind Mone Mother Msigns Mplace MleftOf MrightOf Mtype Msum Msign MsignAt Mproduct Mopen Mat h H locs ls hP hD hS hl => ?_) _ (fun Mformulas Mkind Mone Mother Msigns Mplace MleftOf MrightOf Mtype Msum Msign MsignAt Mproduct Mopen Mat h H locs ls hP hD hS hl => ?_) _ _ _ _ _ _ _ _ _ _ _ _ _ _ _ _ h _ _ _ hP hD hS (lv_sub hl [0] rfl)
  · skip
    refine lv_iconst (v := -1) hx hb dX7_reads_246 (by decide) ?_
    have hP9 := hP
    have hD9 := hD
    have hS9 := hS
    subst hQ
    simp only [Option.some.injEq, Prod.mk.injEq] at h
    obtain ⟨rfl, rfl, rfl, rfl, rfl, rfl, rfl, rfl, rfl, rfl, rfl, rfl, rfl, rfl, rfl, rfl⟩ := h
    exact W.iret hx hb hr (fun t ht hW => ⟨⟨_, (), rfl, rfl, by rw [ht]; exact hP9, va_K.moved hW.alike hK, hD9⟩, hS9.F ht⟩) hS9.2.2 dX7_reads_247
  · skip
    refine lv_aload_n hx hb dX7_reads_259 rfl (lv_at hl 0 rfl) ?_
    obtain ⟨formulas_37, kind_37, one_37, other_37, signs_37, place_37, leftOf_37, rightOf_37, sum_37, product_37, hc37, h⟩ := bnd10_inv h
    have hFc := va_free (wc := (wM k aM Mestimate Munit Msort Mwidth Mmany Mreading Mvariance Mcovariance Mline Mformulas Mroot Mkind Mone Mother Msigns Mplace MleftOf MrightOf Mtype Msum Msign MsignAt Mproduct Mvalue Mslope Mexponent Mdrawn Mslopes Mfrom Mfactor Mthrown Mlength Mmodels Mopen Mat Mrows Mx)) hD hS hA [0, 1, 2, 3, 4, 5, 6, 7, 8, 9, 10, 11, 12, 13, 14, 15, 16, 17, 18, 19, 20, 21, 22, 23, 24, 25, 26, 27, 28, 29, 30] rfl
    refine xc_v (va_runV (As := []) (rest := []) ⟨hx, hb, hml, hown, hts⟩ (met_X7_adds l D k  aM H.size Mestimate Munit Msort Mwidth Mmany Mreading Mvariance Mcovariance Mline Mformulas Mroot Mkind Mone Mother Msigns Mplace MleftOf MrightOf Mtype Msum Msign MsignAt Mproduct Mvalue Mslope Mexponent Mdrawn Mslopes Mfrom Mfactor Mthrown Mlength Mmodels Mopen Mat Mrows Mx formulas_37 kind_37 one_37 other_37 signs_37 place_37 leftOf_37 rightOf_37 sum_37 product_37 hc37) (cwV 0 hts gX7_reads_X7_adds rfl rfl rfl (by decide +kernel) ⟨Nat.le_of_ble_eq_true rfl, Nat.le_of_ble_eq_true rfl⟩) ⟨pw_blind, va_recv hK hP (ci := 7) (q0 := 0) rfl rfl, pw_start hP hK hD⟩ rfl rfl hl.1 rfl (lv_room (Nat.le_of_ble_eq_true rfl)) dX7_reads_260 ⟨Nat.zero_le _, Nat.zero_le _⟩) hS hFc (fun H1 locs hP1 hD1 hk1 hS => ?_)
    obtain ⟨hP, hD⟩ := vj_all hFc hP1 hD1
    clear hP1 hD1 hk1 hFc
    generalize H1 = H at hP hS ⊢
    refine lv_aload_n hx hb dX7_reads_263 rfl (lv_at hl 0 rfl) ?_
    refine va_get (D := D) (ci := 7) (v := .int Mopen) (C := RX7) (T := TX7) (N := 37) hx hb hts iX7 hown hK hP 0 rfl rfl 21 (by decide) f142 (fun _ h9 => h9) rfl dX7_reads_264 ?_
    refine lv_if_ne (tgt := 279) hx hb dX7_reads_267 (by decide) (fun c38 => ?_) (fun c38 => ?_)
    · replace h := sf_f c38 h
      refine lv_iconst (v := -1) hx hb dX7_reads_279 (by decide) ?_
      have hP9 := hP
      have hD9 := hD
      have hS9 := hS
      subst hQ
      simp only [Option.some.injEq, Prod.mk.injEq] at h
      obtain ⟨rfl, rfl, rfl, rfl, rfl, rfl, rfl, rfl, rfl, rfl, rfl, rfl, rfl, rfl, rfl, rfl⟩ := h
      exact W.iret hx hb hr (fun t ht hW => ⟨⟨_, (), rfl, rfl, by rw [ht]; exact hP9, va_K.moved hW.alike hK, hD9⟩, hS9.F ht⟩) hS9.2.2 dX7_reads_280
    · replace h := sf_t c38 h
      refine lv_aload_n hx hb dX7_reads_270 rfl (lv_at hl 0 rfl) ?_
      refine va_get (D := D) (ci := 7) (v := .ref (aM 20)) (C := RX7) (T := TX7) (N := 37) hx hb hts iX7 hown hK hP 0 rfl rfl 23 (by decide) f67 (fun _ h9 => h9) rfl dX7_reads_271 ?_
      refine lv_iconst (v := 0) hx hb dX7_reads_274 (by decide) ?_
      obtain ⟨hi39, h⟩ := gi_inv h
      refine va_iald hx hb hK hP 20 0 rfl rfl hi39 dX7_reads_275 ?_
      refine lv_goto (tgt := 280) hx hb dX7_reads_276 (by decide) ?_
      have hP9 := hP
      have hD9 := hD
      have hS9 := hS
      subst hQ
      simp only [Option.some.injEq, Prod.mk.injEq] at h
      obtain ⟨rfl, rfl, rfl, rfl, rfl, rfl, rfl, rfl, rfl, rfl, rfl, rfl, rfl, rfl, rfl, rfl⟩ := h
      exact W.iret hx hb hr (fun t ht hW => ⟨⟨_, (), rfl, rfl, by rw [ht]; exact hP9, va_K.moved hW.alike hK, hD9⟩, hS9.F ht⟩) hS9.2.2 dX7_reads_280
  · skip
    refine lv_iconst (v := -1) hx hb dX7_reads_288 (by decide) ?_
    have hP9 := hP
    have hD9 := hD
    have hS9 := hS
    subst hQ
    simp only [Option.some.injEq, Prod.mk.injEq] at h
    obtain ⟨rfl, rfl, rfl, rfl, rfl, rfl, rfl, rfl, rfl, rfl, rfl, rfl, rfl, rfl, rfl, rfl⟩ := h
    exact W.iret hx hb hr (fun t ht hW => ⟨⟨_, (), rfl, rfl, by rw [ht]; exact hP9, va_K.moved hW.alike hK, hD9⟩, hS9.F ht⟩) hS9.2.2 dX7_reads_289
  · skip
    refine lv_iconst (v := -1) hx hb dX7_reads_293 (by decide) ?_
    have hP9 := hP
    have hD9 := hD
    have hS9 := hS
    subst hQ
    simp only [Option.some.injEq, Prod.mk.injEq] at h
    obtain ⟨rfl, rfl, rfl, rfl, rfl, rfl, rfl, rfl, rfl, rfl, rfl, rfl, rfl, rfl, rfl, rfl⟩ := h
    exact W.iret hx hb hr (fun t ht hW => ⟨⟨_, (), rfl, rfl, by rw [ht]; exact hP9, va_K.moved hW.alike hK, hD9⟩, hS9.F ht⟩) hS9.2.2 dX7_reads_294
def LX7_keeps_7 (v1 : Int32) (v2 : Int32) (E146 : (Nat → Int32) → (Nat → Int32) → (Nat → Int32) → (Nat → Int32) → (Nat → Int32) → (Nat → Int32) → (Nat → Int32) → (Nat → Int32) → (Nat → Int32) → Option ((Nat → Int32) × (Nat → Int32) × (Nat → Int32) × (Nat → Int32) × (Nat → Int32) × (Nat → Int32) × (Nat → Int32) × (Nat → Int32) × (Nat → Int32))) : Nat → Int32 → Int32 → (Nat → Int32) → (Nat → Int32) → (Nat → Int32) → (Nat → Int32) → (Nat → Int32) → (Nat → Int32) → (Nat → Int32) → (Nat → Int32) → (Nat → Int32) → Option ((Nat → Int32) × (Nat → Int32) × (Nat → Int32) × (Nat → Int32) × (Nat → Int32) × (Nat → Int32) × (Nat → Int32) × (Nat → Int32) × (Nat → Int32))
  | 0, _, _, _, _, _, _, _, _, _, _, _ => none
  | fuel + 1, v3, v4, Mformulas, Mroot, Mkind, Mone, Mother, Msigns, Mplace, MleftOf, MrightOf => (if 64 ≤ v4 then E146 Mformulas Mroot Mkind Mone Mother Msigns Mplace MleftOf MrightOf else gi (v3 + v4) 576 (gi ((64 * v1) + v4) 576 (gi (v3 + v4) 576 (gi ((64 * v1) + v4) 576 (gi (v3 + v4) 576 (gi ((64 * v1) + v4) 576 (gi (v3 + v4) 576 (gi ((64 * v1) + v4) 576 (gi (v3 + v4) 576 (gi ((64 * v1) + v4) 576 (gi (v3 + v4) 576 (gi ((64 * v1) + v4) 576 (LX7_keeps_7 v1 v2 E146 fuel v3 (v4 + 1) Mformulas Mroot (upd Mkind (((64 * v1) + v4).toNatClampNeg) (Mkind (v3 + v4).toNatClampNeg)) (upd Mone (((64 * v1) + v4).toNatClampNeg) (Mone (v3 + v4).toNatClampNeg)) (upd Mother (((64 * v1) + v4).toNatClampNeg) (Mother (v3 + v4).toNatClampNeg)) Msigns (upd Mplace (((64 * v1) + v4).toNatClampNeg) (Mplace (v3 + v4).toNatClampNeg)) (upd MleftOf (((64 * v1) + v4).toNatClampNeg) (MleftOf (v3 + v4).toNatClampNeg)) (upd MrightOf (((64 * v1) + v4).toNatClampNeg) (MrightOf (v3 + v4).toNatClampNeg)))))))))))))))
def fX7_keeps (v1 : Int32) (v2 : Int32) (Mformulas : Nat → Int32) (Mroot : Nat → Int32) (Mkind : Nat → Int32) (Mone : Nat → Int32) (Mother : Nat → Int32) (Msigns : Nat → Int32) (Mplace : Nat → Int32) (MleftOf : Nat → Int32) (MrightOf : Nat → Int32) : Option ((Nat → Int32) × (Nat → Int32) × (Nat → Int32) × (Nat → Int32) × (Nat → Int32) × (Nat → Int32) × (Nat → Int32) × (Nat → Int32) × (Nat → Int32)) := LX7_keeps_7 v1 v2 (fun (Mformulas : Nat → Int32) (Mroot : Nat → Int32) (Mkind : Nat → Int32) (Mone : Nat → Int32) (Mother : Nat → Int32) (Msigns : Nat → Int32) (Mplace : Nat → Int32) (MleftOf : Nat → Int32) (MrightOf : Nat → Int32) => gi 8 9 (gi v1 9 (gi 8 9 (gi v1 9 (gi v1 9 (some (upd Mformulas (v1.toNatClampNeg) (Mformulas (8 : Int32).toNatClampNeg), upd Mroot (v1.toNatClampNeg) v2, Mkind, Mone, Mother, upd Msigns (v1.toNatClampNeg) (Msigns (8 : Int32).toNatClampNeg), Mplace, MleftOf, MrightOf))))))) 1000 512 0 Mformulas Mroot Mkind Mone Mother Msigns Mplace MleftOf MrightOf
abbrev rmX7_keeps : Room := { frames := 0, cells := 0, slots := 0, locals := 0 }
set_option maxHeartbeats 4000000 in
set_option maxRecDepth 100000 in
theorem met_X7_keeps (l : Launch) (D : va_G) (k : Nat → ClassId)  (aM : Nat → Nat) (sz : Nat) (Mestimate : Nat → Int32) (Munit : Nat → Int32) (Msort : Nat → Int32) (Mwidth : Nat → Int32) (Mmany : Nat → Int32) (Mreading : Nat → Int32) (Mvariance : Nat → Int32) (Mcovariance : Nat → Int32) (Mline : Nat → Int32) (Mformulas : Nat → Int32) (Mroot : Nat → Int32) (Mkind : Nat → Int32) (Mone : Nat → Int32) (Mother : Nat → Int32) (Msigns : Nat → Int32) (Mplace : Nat → Int32) (MleftOf : Nat → Int32) (MrightOf : Nat → Int32) (Mtype : Nat → Int32) (Msum : Nat → Int32) (Msign : Nat → Int32) (MsignAt : Nat → Int32) (Mproduct : Nat → Int32) (Mvalue : Nat → Int64) (Mslope : Nat → Int64) (Mexponent : Nat → Int32) (Mdrawn : Nat → Int32) (Mslopes : Nat → Int64) (Mfrom : Nat → Int32) (Mfactor : Nat → Int32) (Mthrown : Int32) (Mlength : Int32) (Mmodels : Int32) (Mopen : Int32) (Mat : Int32) (Mrows : Int32) (Mx : Int32) (v1 : Int32) (v2 : Int32) (RMformulas : Nat → Int32) (RMroot : Nat → Int32) (RMkind : Nat → Int32) (RMone : Nat → Int32) (RMother : Nat → Int32) (RMsigns : Nat → Int32) (RMplace : Nat → Int32) (RMleftOf : Nat → Int32) (RMrightOf : Nat → Int32) (h : fX7_keeps v1 v2 Mformulas Mroot Mkind Mone Mother Msigns Mplace MleftOf MrightOf = some (RMformulas, RMroot, RMkind, RMone, RMother, RMsigns, RMplace, RMleftOf, RMrightOf)) : Met l yX7_keeps wsX7_keeps rmX7_keeps (va_Pc [.ref (aM 0), .int v1, .int v2] (PreW D k (wM k aM Mestimate Munit Msort Mwidth Mmany Mreading Mvariance Mcovariance Mline Mformulas Mroot Mkind Mone Mother Msigns Mplace MleftOf MrightOf Mtype Msum Msign MsignAt Mproduct Mvalue Mslope Mexponent Mdrawn Mslopes Mfrom Mfactor Mthrown Mlength Mmodels Mopen Mat Mrows Mx) sz)) (va_Qv (fun _ : Unit => True) (fun _ t => PostW D k (va_A (wM k aM Mestimate Munit Msort Mwidth Mmany Mreading Mvariance Mcovariance Mline Mformulas Mroot Mkind Mone Mother Msigns Mplace MleftOf MrightOf Mtype Msum Msign MsignAt Mproduct Mvalue Mslope Mexponent Mdrawn Mslopes Mfrom Mfactor Mthrown Mlength Mmodels Mopen Mat Mrows Mx) sz) (wM k aM Mestimate Munit Msort Mwidth Mmany Mreading Mvariance Mcovariance Mline RMformulas RMroot RMkind RMone RMother RMsigns RMplace RMleftOf RMrightOf Mtype Msum Msign MsignAt Mproduct Mvalue Mslope Mexponent Mdrawn Mslopes Mfrom Mfactor Mthrown Mlength Mmodels Mopen Mat Mrows Mx) t) (va_A (wM k aM Mestimate Munit Msort Mwidth Mmany Mreading Mvariance Mcovariance Mline Mformulas Mroot Mkind Mone Mother Msigns Mplace MleftOf MrightOf Mtype Msum Msign MsignAt Mproduct Mvalue Mslope Mexponent Mdrawn Mslopes Mfrom Mfactor Mthrown Mlength Mmodels Mopen Mat Mrows Mx) sz)) 0 0 (va_A (wM k aM Mestimate Munit Msort Mwidth Mmany Mreading Mvariance Mcovariance Mline Mformulas Mroot Mkind Mone Mother Msigns Mplace MleftOf MrightOf Mtype Msum Msign MsignAt Mproduct Mvalue Mslope Mexponent Mdrawn Mslopes Mfrom Mfactor Mthrown Mlength Mmodels Mopen Mat Mrows Mx) sz) := by
  refine Met.ofW (cc := cX7_keeps) (maxL := 5) (ret := none) (by decide) rfl ?_
  intro p e s m args below meth c s₁ B hml hv
  obtain ⟨hav, hsz, hP, hK, hD0⟩ := hv
  have hx := B.exec
  have hb := B.bytes
  have hr := B.returns
  have hts := atoms_spec (ws := wsX7_keeps) B.pre
  have hown : s.vm.findClass RX7 = some m.cls := findClass_of_methodNamed B.named
  have hlocks := B.notSynchronized
  subst hsz
  have hD := hD0.self (sz := s.heap.size)
  clear hD0
  generalize hAe : va_A (wM k aM Mestimate Munit Msort Mwidth Mmany Mreading Mvariance Mcovariance Mline Mformulas Mroot Mkind Mone Mother Msigns Mplace MleftOf MrightOf Mtype Msum Msign MsignAt Mproduct Mvalue Mslope Mexponent Mdrawn Mslopes Mfrom Mfactor Mthrown Mlength Mmodels Mopen Mat Mrows Mx) s.heap.size = A at hD ⊢
  have hA : ∀ q : Nat, s.heap.size ≤ q → A q := fun q h => by rw [← hAe]; exact Or.inr h
  have hS : va_S A s.heap s.heap [] := va_S.rf
  have hl := lv_entry ([.ref (aM 0), .int v1, .int v2]) (n := 5) (Nat.le_of_ble_eq_true rfl)
  rw [show entryFrame m args 5 = entryFrame m ([.ref (aM 0), .int v1, .int v2] : List Value).toArray 5 from by rw [hav], lg_entry_eq]
  generalize (lg_sl ([.ref (aM 0), .int v1, .int v2]) ++ List.replicate (5 - (lg_sl ([.ref (aM 0), .int v1, .int v2])).length) Slot.unset).toArray = ls at hl ⊢
  replace hl : lv_has ls 5 [(0, .ref (aM 0)), (1, .int v1), (2, .int v2)] := hl
  have f37 := hts (.fieldLink RX7 37 "UncertainBookModel" "formulas" "[I") (by decide +kernel)
  have f40 := hts (.fieldLink RX7 40 "UncertainBookModel" "root" "[I") (by decide +kernel)
  have f43 := hts (.fieldLink RX7 43 "UncertainBookModel" "kind" "[I") (by decide +kernel)
  have f46 := hts (.fieldLink RX7 46 "UncertainBookModel" "one" "[I") (by decide +kernel)
  have f49 := hts (.fieldLink RX7 49 "UncertainBookModel" "other" "[I") (by decide +kernel)
  have f52 := hts (.fieldLink RX7 52 "UncertainBookModel" "signs" "[I") (by decide +kernel)
  have f55 := hts (.fieldLink RX7 55 "UncertainBookModel" "place" "[I") (by decide +kernel)
  have f58 := hts (.fieldLink RX7 58 "UncertainBookModel" "leftOf" "[I") (by decide +kernel)
  have f61 := hts (.fieldLink RX7 61 "UncertainBookModel" "rightOf" "[I") (by decide +kernel)
  have iX7 : ∀ w ∈ u_ws RX7 TX7 37, w ∈ wsX7_keeps := by decide +kernel
  refine w_q (fun Q hQ => ?_)
  unfold fX7_keeps at h
  show W p l e rmX7_keeps s m args below meth c s.heap [] 0 0 Q (F0 m 0 ls [])
  have LH_7 : ∀ (E146 : (Nat → Int32) → (Nat → Int32) → (Nat → Int32) → (Nat → Int32) → (Nat → Int32) → (Nat → Int32) → (Nat → Int32) → (Nat → Int32) → (Nat → Int32) → Option ((Nat → Int32) × (Nat → Int32) × (Nat → Int32) × (Nat → Int32) × (Nat → Int32) × (Nat → Int32) × (Nat → Int32) × (Nat → Int32) × (Nat → Int32))) (hE146 : ∀ (Mformulas : Nat → Int32) (Mroot : Nat → Int32) (Mkind : Nat → Int32) (Mone : Nat → Int32) (Mother : Nat → Int32) (Msigns : Nat → Int32) (Mplace : Nat → Int32) (MleftOf : Nat → Int32) (MrightOf : Nat → Int32), E146 Mformulas Mroot Mkind Mone Mother Msigns Mplace MleftOf MrightOf = some (RMformulas, RMroot, RMkind, RMone, RMother, RMsigns, RMplace, RMleftOf, RMrightOf) → ∀ (H : Heap) (locs : List Loc) (ls : Array Slot), va_P D vwCl (wM k aM Mestimate Munit Msort Mwidth Mmany Mreading Mvariance Mcovariance Mline Mformulas Mroot Mkind Mone Mother Msigns Mplace MleftOf MrightOf Mtype Msum Msign MsignAt Mproduct Mvalue Mslope Mexponent Mdrawn Mslopes Mfrom Mfactor Mthrown Mlength Mmodels Mopen Mat Mrows Mx) H → va_D A (wM k aM Mestimate Munit Msort Mwidth Mmany Mreading Mvariance Mcovariance Mline Mformulas Mroot Mkind Mone Mother Msigns Mplace MleftOf MrightOf Mtype Msum Msign MsignAt Mproduct Mvalue Mslope Mexponent Mdrawn Mslopes Mfrom Mfactor Mthrown Mlength Mmodels Mopen Mat Mrows Mx) → va_S A s.heap H locs → lv_has ls 5 [(0, .ref (aM 0)), (1, .int v1), (2, .int v2)] → W p l e rmX7_keeps s m args below meth c H locs 0 0 Q (F0 m 146 ls [])) (n : Nat) (v3 : Int32) (v4 : Int32) (Mformulas : Nat → Int32) (Mroot : Nat → Int32) (Mkind : Nat → Int32) (Mone : Nat → Int32) (Mother : Nat → Int32) (Msigns : Nat → Int32) (Mplace : Nat → Int32) (MleftOf : Nat → Int32) (MrightOf : Nat → Int32), LX7_keeps_7 v1 v2 E146 n v3 v4 Mformulas Mroot Mkind Mone Mother Msigns Mplace MleftOf MrightOf = some (RMformulas, RMroot, RMkind, RMone, RMother, RMsigns, RMplace, RMleftOf, RMrightOf) → ∀ (H : Heap) (locs : List Loc) (ls : Array Slot), va_P D vwCl (wM k aM Mestimate Munit Msort Mwidth Mmany Mreading Mvariance Mcovariance Mline Mformulas Mroot Mkind Mone Mother Msigns Mplace MleftOf MrightOf Mtype Msum Msign MsignAt Mproduct Mvalue Mslope Mexponent Mdrawn Mslopes Mfrom Mfactor Mthrown Mlength Mmodels Mopen Mat Mrows Mx) H → va_D A (wM k aM Mestimate Munit Msort Mwidth Mmany Mreading Mvariance Mcovariance Mline Mformulas Mroot Mkind Mone Mother Msigns Mplace MleftOf MrightOf Mtype Msum Msign MsignAt Mproduct Mvalue Mslope Mexponent Mdrawn Mslopes Mfrom Mfactor Mthrown Mlength Mmodels Mopen Mat Mrows Mx) → va_S A s.heap H locs → lv_has ls 5 [(0, .ref (aM 0)), (1, .int v1), (2, .int v2), (3, .int v3), (4, .int v4)] → W p l e rmX7_keeps s m args below meth c H locs 0 0 Q (F0 m 7 ls []) := by
    intro E146 hE146 n
    induction n with
    | zero => intro v3 v4 Mformulas Mroot Mkind Mone Mother Msigns Mplace MleftOf MrightOf h; simp [LX7_keeps_7] at h
    | succ n ih =>
    intro v3 v4 Mformulas Mroot Mkind Mone Mother Msigns Mplace MleftOf MrightOf h H locs ls hP hD hS hl
    rw [LX7_keeps_7] at h
    refine lv_iload hx hb dX7_keeps_7 (lv_at hl 4 rfl) ?_
    refine lv_bipush (v := 64) hx hb dX7_keeps_9 (by decide) ?_
    refine lv_icmp_ge (tgt := 146) hx hb dX7_keeps_11 (by decide) (fun c1 => ?_) (fun c1 => ?_)
    · replace h := sf_t c1 h
      exact hE146 _ _ _ _ _ _ _ _ _ h _ _ _ hP hD hS (lv_sub hl [0, 1, 2] rfl)
    · replace h := sf_f c1 h
      refine lv_aload_n hx hb dX7_keeps_14 rfl (lv_at hl 0 rfl) ?_
      refine va_get (D := D) (ci := 7) (v := .ref (aM 12)) (C := RX7) (T := TX7) (N := 37) hx hb hts iX7 hown hK hP 0 rfl rfl 14 (by decide) f43 (fun _ h9 => h9) rfl dX7_keeps_15 ?_
      refine lv_bipush (v := 64) hx hb dX7_keeps_18 (by decide) ?_
      refine lv_iload_n hx hb dX7_keeps_20 rfl (lv_at hl 1 rfl) ?_
      refine lv_imul hx hb dX7_keeps_21 ?_
      refine lv_iload hx hb dX7_keeps_22 (lv_at hl 4 rfl) ?_
      refine lv_iadd hx hb dX7_keeps_24 ?_
      refine lv_aload_n hx hb dX7_keeps_25 rfl (lv_at hl 0 rfl) ?_
      refine va_get (D := D) (ci := 7) (v := .ref (aM 12)) (C := RX7) (T := TX7) (N := 37) hx hb hts iX7 hown hK hP 0 rfl rfl 14 (by decide) f43 (fun _ h9 => h9) rfl dX7_keeps_26 ?_
      refine lv_iload_n hx hb dX7_keeps_29 rfl (lv_at hl 3 rfl) ?_
      refine lv_iload hx hb dX7_keeps_30 (lv_at hl 4 rfl) ?_
      refine lv_iadd hx hb dX7_keeps_32 ?_
      obtain ⟨hi2, h⟩ := gi_inv h
      refine va_iald hx hb hK hP 12 0 rfl rfl hi2 dX7_keeps_33 ?_
      obtain ⟨hi3, h⟩ := gi_inv h
      refine va_iast hx hb hK hP hD hS 12 0 rfl rfl hi3 dX7_keeps_34 (fun H locs hP hD hS => ?_)
      replace hP : va_P D vwCl (wM k aM Mestimate Munit Msort Mwidth Mmany Mreading Mvariance Mcovariance Mline Mformulas Mroot (upd Mkind (((64 * v1) + v4).toNatClampNeg) (Mkind (v3 + v4).toNatClampNeg)) Mone Mother Msigns Mplace MleftOf MrightOf Mtype Msum Msign MsignAt Mproduct Mvalue Mslope Mexponent Mdrawn Mslopes Mfrom Mfactor Mthrown Mlength Mmodels Mopen Mat Mrows Mx) H := hP
      replace hD : va_D A (wM k aM Mestimate Munit Msort Mwidth Mmany Mreading Mvariance Mcovariance Mline Mformulas Mroot (upd Mkind (((64 * v1) + v4).toNatClampNeg) (Mkind (v3 + v4).toNatClampNeg)) Mone Mother Msigns Mplace MleftOf MrightOf Mtype Msum Msign MsignAt Mproduct Mvalue Mslope Mexponent Mdrawn Mslopes Mfrom Mfactor Mthrown Mlength Mmodels Mopen Mat Mrows Mx) := hD
      refine lv_aload_n hx hb dX7_keeps_35 rfl (lv_at hl 0 rfl) ?_
      refine va_get (D := D) (ci := 7) (v := .ref (aM 13)) (C := RX7) (T := TX7) (N := 37) hx hb hts iX7 hown hK hP 0 rfl rfl 15 (by decide) f46 (fun _ h9 => h9) rfl dX7_keeps_36 ?_
      refine lv_bipush (v := 64) hx hb dX7_keeps_39 (by decide) ?_
      refine lv_iload_n hx hb dX7_keeps_41 rfl (lv_at hl 1 rfl) ?_
      refine lv_imul hx hb dX7_keeps_42 ?_
      refine lv_iload hx hb dX7_keeps_43 (lv_at hl 4 rfl) ?_
      refine lv_iadd hx hb dX7_keeps_45 ?_
      refine lv_aload_n hx hb dX7_keeps_46 rfl (lv_at hl 0 rfl) ?_
      refine va_get (D := D) (ci := 7) (v := .ref (aM 13)) (C := RX7) (T := TX7) (N := 37) hx hb hts iX7 hown hK hP 0 rfl rfl 15 (by decide) f46 (fun _ h9 => h9) rfl dX7_keeps_47 ?_
      refine lv_iload_n hx hb dX7_keeps_50 rfl (lv_at hl 3 rfl) ?_
      refine lv_iload hx hb dX7_keeps_51 (lv_at hl 4 rfl) ?_
      refine lv_iadd hx hb dX7_keeps_53 ?_
      obtain ⟨hi4, h⟩ := gi_inv h
      refine va_iald hx hb hK hP 13 0 rfl rfl hi4 dX7_keeps_54 ?_
      obtain ⟨hi5, h⟩ := gi_inv h
      refine va_iast hx hb hK hP hD hS 13 0 rfl rfl hi5 dX7_keeps_55 (fun H locs hP hD hS => ?_)
      replace hP : va_P D vwCl (wM k aM Mestimate Munit Msort Mwidth Mmany Mreading Mvariance Mcovariance Mline Mformulas Mroot (upd Mkind (((64 * v1) + v4).toNatClampNeg) (Mkind (v3 + v4).toNatClampNeg)) (upd Mone (((64 * v1) + v4).toNatClampNeg) (Mone (v3 + v4).toNatClampNeg)) Mother Msigns Mplace MleftOf MrightOf Mtype Msum Msign MsignAt Mproduct Mvalue Mslope Mexponent Mdrawn Mslopes Mfrom Mfactor Mthrown Mlength Mmodels Mopen Mat Mrows Mx) H := hP
      replace hD : va_D A (wM k aM Mestimate Munit Msort Mwidth Mmany Mreading Mvariance Mcovariance Mline Mformulas Mroot (upd Mkind (((64 * v1) + v4).toNatClampNeg) (Mkind (v3 + v4).toNatClampNeg)) (upd Mone (((64 * v1) + v4).toNatClampNeg) (Mone (v3 + v4).toNatClampNeg)) Mother Msigns Mplace MleftOf MrightOf Mtype Msum Msign MsignAt Mproduct Mvalue Mslope Mexponent Mdrawn Mslopes Mfrom Mfactor Mthrown Mlength Mmodels Mopen Mat Mrows Mx) := hD
      refine lv_aload_n hx hb dX7_keeps_56 rfl (lv_at hl 0 rfl) ?_
      refine va_get (D := D) (ci := 7) (v := .ref (aM 14)) (C := RX7) (T := TX7) (N := 37) hx hb hts iX7 hown hK hP 0 rfl rfl 16 (by decide) f49 (fun _ h9 => h9) rfl dX7_keeps_57 ?_
      refine lv_bipush (v := 64) hx hb dX7_keeps_60 (by decide) ?_
      refine lv_iload_n hx hb dX7_keeps_62 rfl (lv_at hl 1 rfl) ?_
      refine lv_imul hx hb dX7_keeps_63 ?_
      refine lv_iload hx hb dX7_keeps_64 (lv_at hl 4 rfl) ?_
      refine lv_iadd hx hb dX7_keeps_66 ?_
      refine lv_aload_n hx hb dX7_keeps_67 rfl (lv_at hl 0 rfl) ?_
      refine va_get (D := D) (ci := 7) (v := .ref (aM 14)) (C := RX7) (T := TX7) (N := 37) hx hb hts iX7 hown hK hP 0 rfl rfl 16 (by decide) f49 (fun _ h9 => h9) rfl dX7_keeps_68 ?_
      refine lv_iload_n hx hb dX7_keeps_71 rfl (lv_at hl 3 rfl) ?_
      refine lv_iload hx hb dX7_keeps_72 (lv_at hl 4 rfl) ?_
      refine lv_iadd hx hb dX7_keeps_74 ?_
      obtain ⟨hi6, h⟩ := gi_inv h
      refine va_iald hx hb hK hP 14 0 rfl rfl hi6 dX7_keeps_75 ?_
      obtain ⟨hi7, h⟩ := gi_inv h
      refine va_iast hx hb hK hP hD hS 14 0 rfl rfl hi7 dX7_keeps_76 (fun H locs hP hD hS => ?_)
      replace hP : va_P D vwCl (wM k aM Mestimate Munit Msort Mwidth Mmany Mreading Mvariance Mcovariance Mline Mformulas Mroot (upd Mkind (((64 * v1) + v4).toNatClampNeg) (Mkind (v3 + v4).toNatClampNeg)) (upd Mone (((64 * v1) + v4).toNatClampNeg) (Mone (v3 + v4).toNatClampNeg)) (upd Mother (((64 * v1) + v4).toNatClampNeg) (Mother (v3 + v4).toNatClampNeg)) Msigns Mplace MleftOf MrightOf Mtype Msum Msign MsignAt Mproduct Mvalue Mslope Mexponent Mdrawn Mslopes Mfrom Mfactor Mthrown Mlength Mmodels Mopen Mat Mrows Mx) H := hP
      replace hD : va_D A (wM k aM Mestimate Munit Msort Mwidth Mmany Mreading Mvariance Mcovariance Mline Mformulas Mroot (upd Mkind (((64 * v1) + v4).toNatClampNeg) (Mkind (v3 + v4).toNatClampNeg)) (upd Mone (((64 * v1) + v4).toNatClampNeg) (Mone (v3 + v4).toNatClampNeg)) (upd Mother (((64 * v1) + v4).toNatClampNeg) (Mother (v3 + v4).toNatClampNeg)) Msigns Mplace MleftOf MrightOf Mtype Msum Msign MsignAt Mproduct Mvalue Mslope Mexponent Mdrawn Mslopes Mfrom Mfactor Mthrown Mlength Mmodels Mopen Mat Mrows Mx) := hD
      refine lv_aload_n hx hb dX7_keeps_77 rfl (lv_at hl 0 rfl) ?_
      refine va_get (D := D) (ci := 7) (v := .ref (aM 16)) (C := RX7) (T := TX7) (N := 37) hx hb hts iX7 hown hK hP 0 rfl rfl 18 (by decide) f55 (fun _ h9 => h9) rfl dX7_keeps_78 ?_
      refine lv_bipush (v := 64) hx hb dX7_keeps_81 (by decide) ?_
      refine lv_iload_n hx hb dX7_keeps_83 rfl (lv_at hl 1 rfl) ?_
      refine lv_imul hx hb dX7_keeps_84 ?_
      refine lv_iload hx hb dX7_keeps_85 (lv_at hl 4 rfl) ?_
      refine lv_iadd hx hb dX7_keeps_87 ?_
      refine lv_aload_n hx hb dX7_keeps_88 rfl (lv_at hl 0 rfl) ?_
      refine va_get (D := D) (ci := 7) (v := .ref (aM 16)) (C := RX7) (T := TX7) (N := 37) hx hb hts iX7 hown hK hP 0 rfl rfl 18 (by decide) f55 (fun _ h9 => h9) rfl dX7_keeps_89 ?_
      refine lv_iload_n hx hb dX7_keeps_92 rfl (lv_at hl 3 rfl) ?_
      refine lv_iload hx hb dX7_keeps_93 (lv_at hl 4 rfl) ?_
      refine lv_iadd hx hb dX7_keeps_95 ?_
      obtain ⟨hi8, h⟩ := gi_inv h
      refine va_iald hx hb hK hP 16 0 rfl rfl hi8 dX7_keeps_96 ?_
      obtain ⟨hi9, h⟩ := gi_inv h
      refine va_iast hx hb hK hP hD hS 16 0 rfl rfl hi9 dX7_keeps_97 (fun H locs hP hD hS => ?_)
      replace hP : va_P D vwCl (wM k aM Mestimate Munit Msort Mwidth Mmany Mreading Mvariance Mcovariance Mline Mformulas Mroot (upd Mkind (((64 * v1) + v4).toNatClampNeg) (Mkind (v3 + v4).toNatClampNeg)) (upd Mone (((64 * v1) + v4).toNatClampNeg) (Mone (v3 + v4).toNatClampNeg)) (upd Mother (((64 * v1) + v4).toNatClampNeg) (Mother (v3 + v4).toNatClampNeg)) Msigns (upd Mplace (((64 * v1) + v4).toNatClampNeg) (Mplace (v3 + v4).toNatClampNeg)) MleftOf MrightOf Mtype Msum Msign MsignAt Mproduct Mvalue Mslope Mexponent Mdrawn Mslopes Mfrom Mfactor Mthrown Mlength Mmodels Mopen Mat Mrows Mx) H := hP
      replace hD : va_D A (wM k aM Mestimate Munit Msort Mwidth Mmany Mreading Mvariance Mcovariance Mline Mformulas Mroot (upd Mkind (((64 * v1) + v4).toNatClampNeg) (Mkind (v3 + v4).toNatClampNeg)) (upd Mone (((64 * v1) + v4).toNatClampNeg) (Mone (v3 + v4).toNatClampNeg)) (upd Mother (((64 * v1) + v4).toNatClampNeg) (Mother (v3 + v4).toNatClampNeg)) Msigns (upd Mplace (((64 * v1) + v4).toNatClampNeg) (Mplace (v3 + v4).toNatClampNeg)) MleftOf MrightOf Mtype Msum Msign MsignAt Mproduct Mvalue Mslope Mexponent Mdrawn Mslopes Mfrom Mfactor Mthrown Mlength Mmodels Mopen Mat Mrows Mx) := hD
      refine lv_aload_n hx hb dX7_keeps_98 rfl (lv_at hl 0 rfl) ?_
      refine va_get (D := D) (ci := 7) (v := .ref (aM 17)) (C := RX7) (T := TX7) (N := 37) hx hb hts iX7 hown hK hP 0 rfl rfl 19 (by decide) f58 (fun _ h9 => h9) rfl dX7_keeps_99 ?_
      refine lv_bipush (v := 64) hx hb dX7_keeps_102 (by decide) ?_
      refine lv_iload_n hx hb dX7_keeps_104 rfl (lv_at hl 1 rfl) ?_
      refine lv_imul hx hb dX7_keeps_105 ?_
      refine lv_iload hx hb dX7_keeps_106 (lv_at hl 4 rfl) ?_
      refine lv_iadd hx hb dX7_keeps_108 ?_
      refine lv_aload_n hx hb dX7_keeps_109 rfl (lv_at hl 0 rfl) ?_
      refine va_get (D := D) (ci := 7) (v := .ref (aM 17)) (C := RX7) (T := TX7) (N := 37) hx hb hts iX7 hown hK hP 0 rfl rfl 19 (by decide) f58 (fun _ h9 => h9) rfl dX7_keeps_110 ?_
      refine lv_iload_n hx hb dX7_keeps_113 rfl (lv_at hl 3 rfl) ?_
      refine lv_iload hx hb dX7_keeps_114 (lv_at hl 4 rfl) ?_
      refine lv_iadd hx hb dX7_keeps_116 ?_
      obtain ⟨hi10, h⟩ := gi_inv h
      refine va_iald hx hb hK hP 17 0 rfl rfl hi10 dX7_keeps_117 ?_
      obtain ⟨hi11, h⟩ := gi_inv h
      refine va_iast hx hb hK hP hD hS 17 0 rfl rfl hi11 dX7_keeps_118 (fun H locs hP hD hS => ?_)
      replace hP : va_P D vwCl (wM k aM Mestimate Munit Msort Mwidth Mmany Mreading Mvariance Mcovariance Mline Mformulas Mroot (upd Mkind (((64 * v1) + v4).toNatClampNeg) (Mkind (v3 + v4).toNatClampNeg)) (upd Mone (((64 * v1) + v4).toNatClampNeg) (Mone (v3 + v4).toNatClampNeg)) (upd Mother (((64 * v1) + v4).toNatClampNeg) (Mother (v3 + v4).toNatClampNeg)) Msigns (upd Mplace (((64 * v1) + v4).toNatClampNeg) (Mplace (v3 + v4).toNatClampNeg)) (upd MleftOf (((64 * v1) + v4).toNatClampNeg) (MleftOf (v3 + v4).toNatClampNeg)) MrightOf Mtype Msum Msign MsignAt Mproduct Mvalue Mslope Mexponent Mdrawn Mslopes Mfrom Mfactor Mthrown Mlength Mmodels Mopen Mat Mrows Mx) H := hP
      replace hD : va_D A (wM k aM Mestimate Munit Msort Mwidth Mmany Mreading Mvariance Mcovariance Mline Mformulas Mroot (upd Mkind (((64 * v1) + v4).toNatClampNeg) (Mkind (v3 + v4).toNatClampNeg)) (upd Mone (((64 * v1) + v4).toNatClampNeg) (Mone (v3 + v4).toNatClampNeg)) (upd Mother (((64 * v1) + v4).toNatClampNeg) (Mother (v3 + v4).toNatClampNeg)) Msigns (upd Mplace (((64 * v1) + v4).toNatClampNeg) (Mplace (v3 + v4).toNatClampNeg)) (upd MleftOf (((64 * v1) + v4).toNatClampNeg) (MleftOf (v3 + v4).toNatClampNeg)) MrightOf Mtype Msum Msign MsignAt Mproduct Mvalue Mslope Mexponent Mdrawn Mslopes Mfrom Mfactor Mthrown Mlength Mmodels Mopen Mat Mrows Mx) := hD
      refine lv_aload_n hx hb dX7_keeps_119 rfl (lv_at hl 0 rfl) ?_
      refine va_get (D := D) (ci := 7) (v := .ref (aM 18)) (C := RX7) (T := TX7) (N := 37) hx hb hts iX7 hown hK hP 0 rfl rfl 20 (by decide) f61 (fun _ h9 => h9) rfl dX7_keeps_120 ?_
      refine lv_bipush (v := 64) hx hb dX7_keeps_123 (by decide) ?_
      refine lv_iload_n hx hb dX7_keeps_125 rfl (lv_at hl 1 rfl) ?_
      refine lv_imul hx hb dX7_keeps_126 ?_
      refine lv_iload hx hb dX7_keeps_127 (lv_at hl 4 rfl) ?_
      refine lv_iadd hx hb dX7_keeps_129 ?_
      refine lv_aload_n hx hb dX7_keeps_130 rfl (lv_at hl 0 rfl) ?_
      refine va_get (D := D) (ci := 7) (v := .ref (aM 18)) (C := RX7) (T := TX7) (N := 37) hx hb hts iX7 hown hK hP 0 rfl rfl 20 (by decide) f61 (fun _ h9 => h9) rfl dX7_keeps_131 ?_
      refine lv_iload_n hx hb dX7_keeps_134 rfl (lv_at hl 3 rfl) ?_
      refine lv_iload hx hb dX7_keeps_135 (lv_at hl 4 rfl) ?_
      refine lv_iadd hx hb dX7_keeps_137 ?_
      obtain ⟨hi12, h⟩ := gi_inv h
      refine va_iald hx hb hK hP 18 0 rfl rfl hi12 dX7_keeps_138 ?_
      obtain ⟨hi13, h⟩ := gi_inv h
      refine va_iast hx hb hK hP hD hS 18 0 rfl rfl hi13 dX7_keeps_139 (fun H locs hP hD hS => ?_)
      replace hP : va_P D vwCl (wM k aM Mestimate Munit Msort Mwidth Mmany Mreading Mvariance Mcovariance Mline Mformulas Mroot (upd Mkind (((64 * v1) + v4).toNatClampNeg) (Mkind (v3 + v4).toNatClampNeg)) (upd Mone (((64 * v1) + v4).toNatClampNeg) (Mone (v3 + v4).toNatClampNeg)) (upd Mother (((64 * v1) + v4).toNatClampNeg) (Mother (v3 + v4).toNatClampNeg)) Msigns (upd Mplace (((64 * v1) + v4).toNatClampNeg) (Mplace (v3 + v4).toNatClampNeg)) (upd MleftOf (((64 * v1) + v4).toNatClampNeg) (MleftOf (v3 + v4).toNatClampNeg)) (upd MrightOf (((64 * v1) + v4).toNatClampNeg) (MrightOf (v3 + v4).toNatClampNeg)) Mtype Msum Msign MsignAt Mproduct Mvalue Mslope Mexponent Mdrawn Mslopes Mfrom Mfactor Mthrown Mlength Mmodels Mopen Mat Mrows Mx) H := hP
      replace hD : va_D A (wM k aM Mestimate Munit Msort Mwidth Mmany Mreading Mvariance Mcovariance Mline Mformulas Mroot (upd Mkind (((64 * v1) + v4).toNatClampNeg) (Mkind (v3 + v4).toNatClampNeg)) (upd Mone (((64 * v1) + v4).toNatClampNeg) (Mone (v3 + v4).toNatClampNeg)) (upd Mother (((64 * v1) + v4).toNatClampNeg) (Mother (v3 + v4).toNatClampNeg)) Msigns (upd Mplace (((64 * v1) + v4).toNatClampNeg) (Mplace (v3 + v4).toNatClampNeg)) (upd MleftOf (((64 * v1) + v4).toNatClampNeg) (MleftOf (v3 + v4).toNatClampNeg)) (upd MrightOf (((64 * v1) + v4).toNatClampNeg) (MrightOf (v3 + v4).toNatClampNeg)) Mtype Msum Msign MsignAt Mproduct Mvalue Mslope Mexponent Mdrawn Mslopes Mfrom Mfactor Mthrown Mlength Mmodels Mopen Mat Mrows Mx) := hD
      refine lv_iinc (v := v4 + 1) (lv' := [(4, .int (v4 + 1)), (0, .ref (aM 0)), (1, .int v1), (2, .int v2), (3, .int v3)]) hx hb dX7_keeps_140 hl (k := 4) rfl rfl (by decide) rfl (fun ls hl => ?_)
      refine lv_goto (tgt := 7) hx hb dX7_keeps_143 (by decide) ?_
      exact ih _ _ _ _ _ _ _ _ _ _ _ h _ _ _ hP hD hS (lv_sub hl [1, 2, 3, 4, 0] rfl)
  suffices main : ∀ (H : Heap) (locs : List Loc) (ls : Array Slot), va_P D vwCl (wM k aM Mestimate Munit Msort Mwidth Mmany Mreading Mvariance Mcovariance Mline Mformulas Mroot Mkind Mone Mother Msigns Mplace MleftOf MrightOf Mtype Msum Msign MsignAt Mproduct Mvalue Mslope Mexponent Mdrawn Mslopes Mfrom Mfactor Mthrown Mlength Mmodels Mopen Mat Mrows Mx) H → va_D A (wM k aM Mestimate Munit Msort Mwidth Mmany Mreading Mvariance Mcovariance Mline Mformulas Mroot Mkind Mone Mother Msigns Mplace MleftOf MrightOf Mtype Msum Msign MsignAt Mproduct Mvalue Mslope Mexponent Mdrawn Mslopes Mfrom Mfactor Mthrown Mlength Mmodels Mopen Mat Mrows Mx) → va_S A s.heap H locs → lv_has ls 5 [(0, .ref (aM 0)), (1, .int v1), (2, .int v2)] → W p l e rmX7_keeps s m args below meth c H locs 0 0 Q (F0 m 0 ls []) from main _ _ _ hP hD hS hl
  clear hP hD hS hl ls hAe
  intro H locs ls hP hD hS hl
  refine lv_sipush (v := 512) hx hb dX7_keeps_0 (by decide) ?_
  refine lv_istore_n (lv' := [(3, .int 512), (0, .ref (aM 0)), (1, .int v1), (2, .int v2)]) hx hb dX7_keeps_3 rfl hl (by decide) rfl (fun ls hl => ?_)
  refine lv_iconst (v := 0) hx hb dX7_keeps_4 (by decide) ?_
  refine lv_istore (lv' := [(4, .int 0), (3, .int 512), (0, .ref (aM 0)), (1, .int v1), (2, .int v2)]) hx hb dX7_keeps_5 hl (by decide) rfl (fun ls hl => ?_)
  refine LH_7 _ (fun Mformulas Mroot Mkind Mone Mother Msigns Mplace MleftOf MrightOf h H locs ls hP hD hS hl => ?_) _ _ _ _ _ _ _ _ _ _ _ _ h _ _ _ hP hD hS (lv_sub hl [2, 3, 4, 1, 0] rfl)
  · skip
    refine lv_aload_n hx hb dX7_keeps_146 rfl (lv_at hl 0 rfl) ?_
    refine va_get (D := D) (ci := 7) (v := .ref (aM 10)) (C := RX7) (T := TX7) (N := 37) hx hb hts iX7 hown hK hP 0 rfl rfl 12 (by decide) f37 (fun _ h9 => h9) rfl dX7_keeps_147 ?_
    refine lv_iload_n hx hb dX7_keeps_150 rfl (lv_at hl 1 rfl) ?_
    refine lv_aload_n hx hb dX7_keeps_151 rfl (lv_at hl 0 rfl) ?_
    refine va_get (D := D) (ci := 7) (v := .ref (aM 10)) (C := RX7) (T := TX7) (N := 37) hx hb hts iX7 hown hK hP 0 rfl rfl 12 (by decide) f37 (fun _ h9 => h9) rfl dX7_keeps_152 ?_
    refine lv_bipush (v := 8) hx hb dX7_keeps_155 (by decide) ?_
    obtain ⟨hi14, h⟩ := gi_inv h
    refine va_iald hx hb hK hP 10 0 rfl rfl hi14 dX7_keeps_157 ?_
    obtain ⟨hi15, h⟩ := gi_inv h
    refine va_iast hx hb hK hP hD hS 10 0 rfl rfl hi15 dX7_keeps_158 (fun H locs hP hD hS => ?_)
    replace hP : va_P D vwCl (wM k aM Mestimate Munit Msort Mwidth Mmany Mreading Mvariance Mcovariance Mline (upd Mformulas (v1.toNatClampNeg) (Mformulas (8 : Int32).toNatClampNeg)) Mroot Mkind Mone Mother Msigns Mplace MleftOf MrightOf Mtype Msum Msign MsignAt Mproduct Mvalue Mslope Mexponent Mdrawn Mslopes Mfrom Mfactor Mthrown Mlength Mmodels Mopen Mat Mrows Mx) H := hP
    replace hD : va_D A (wM k aM Mestimate Munit Msort Mwidth Mmany Mreading Mvariance Mcovariance Mline (upd Mformulas (v1.toNatClampNeg) (Mformulas (8 : Int32).toNatClampNeg)) Mroot Mkind Mone Mother Msigns Mplace MleftOf MrightOf Mtype Msum Msign MsignAt Mproduct Mvalue Mslope Mexponent Mdrawn Mslopes Mfrom Mfactor Mthrown Mlength Mmodels Mopen Mat Mrows Mx) := hD
    refine lv_aload_n hx hb dX7_keeps_159 rfl (lv_at hl 0 rfl) ?_
    refine va_get (D := D) (ci := 7) (v := .ref (aM 15)) (C := RX7) (T := TX7) (N := 37) hx hb hts iX7 hown hK hP 0 rfl rfl 17 (by decide) f52 (fun _ h9 => h9) rfl dX7_keeps_160 ?_
    refine lv_iload_n hx hb dX7_keeps_163 rfl (lv_at hl 1 rfl) ?_
    refine lv_aload_n hx hb dX7_keeps_164 rfl (lv_at hl 0 rfl) ?_
    refine va_get (D := D) (ci := 7) (v := .ref (aM 15)) (C := RX7) (T := TX7) (N := 37) hx hb hts iX7 hown hK hP 0 rfl rfl 17 (by decide) f52 (fun _ h9 => h9) rfl dX7_keeps_165 ?_
    refine lv_bipush (v := 8) hx hb dX7_keeps_168 (by decide) ?_
    obtain ⟨hi16, h⟩ := gi_inv h
    refine va_iald hx hb hK hP 15 0 rfl rfl hi16 dX7_keeps_170 ?_
    obtain ⟨hi17, h⟩ := gi_inv h
    refine va_iast hx hb hK hP hD hS 15 0 rfl rfl hi17 dX7_keeps_171 (fun H locs hP hD hS => ?_)
    replace hP : va_P D vwCl (wM k aM Mestimate Munit Msort Mwidth Mmany Mreading Mvariance Mcovariance Mline (upd Mformulas (v1.toNatClampNeg) (Mformulas (8 : Int32).toNatClampNeg)) Mroot Mkind Mone Mother (upd Msigns (v1.toNatClampNeg) (Msigns (8 : Int32).toNatClampNeg)) Mplace MleftOf MrightOf Mtype Msum Msign MsignAt Mproduct Mvalue Mslope Mexponent Mdrawn Mslopes Mfrom Mfactor Mthrown Mlength Mmodels Mopen Mat Mrows Mx) H := hP
    replace hD : va_D A (wM k aM Mestimate Munit Msort Mwidth Mmany Mreading Mvariance Mcovariance Mline (upd Mformulas (v1.toNatClampNeg) (Mformulas (8 : Int32).toNatClampNeg)) Mroot Mkind Mone Mother (upd Msigns (v1.toNatClampNeg) (Msigns (8 : Int32).toNatClampNeg)) Mplace MleftOf MrightOf Mtype Msum Msign MsignAt Mproduct Mvalue Mslope Mexponent Mdrawn Mslopes Mfrom Mfactor Mthrown Mlength Mmodels Mopen Mat Mrows Mx) := hD
    refine lv_aload_n hx hb dX7_keeps_172 rfl (lv_at hl 0 rfl) ?_
    refine va_get (D := D) (ci := 7) (v := .ref (aM 11)) (C := RX7) (T := TX7) (N := 37) hx hb hts iX7 hown hK hP 0 rfl rfl 13 (by decide) f40 (fun _ h9 => h9) rfl dX7_keeps_173 ?_
    refine lv_iload_n hx hb dX7_keeps_176 rfl (lv_at hl 1 rfl) ?_
    refine lv_iload_n hx hb dX7_keeps_177 rfl (lv_at hl 2 rfl) ?_
    obtain ⟨hi18, h⟩ := gi_inv h
    refine va_iast hx hb hK hP hD hS 11 0 rfl rfl hi18 dX7_keeps_178 (fun H locs hP hD hS => ?_)
    replace hP : va_P D vwCl (wM k aM Mestimate Munit Msort Mwidth Mmany Mreading Mvariance Mcovariance Mline (upd Mformulas (v1.toNatClampNeg) (Mformulas (8 : Int32).toNatClampNeg)) (upd Mroot (v1.toNatClampNeg) v2) Mkind Mone Mother (upd Msigns (v1.toNatClampNeg) (Msigns (8 : Int32).toNatClampNeg)) Mplace MleftOf MrightOf Mtype Msum Msign MsignAt Mproduct Mvalue Mslope Mexponent Mdrawn Mslopes Mfrom Mfactor Mthrown Mlength Mmodels Mopen Mat Mrows Mx) H := hP
    replace hD : va_D A (wM k aM Mestimate Munit Msort Mwidth Mmany Mreading Mvariance Mcovariance Mline (upd Mformulas (v1.toNatClampNeg) (Mformulas (8 : Int32).toNatClampNeg)) (upd Mroot (v1.toNatClampNeg) v2) Mkind Mone Mother (upd Msigns (v1.toNatClampNeg) (Msigns (8 : Int32).toNatClampNeg)) Mplace MleftOf MrightOf Mtype Msum Msign MsignAt Mproduct Mvalue Mslope Mexponent Mdrawn Mslopes Mfrom Mfactor Mthrown Mlength Mmodels Mopen Mat Mrows Mx) := hD
    have hP9 := hP
    have hD9 := hD
    have hS9 := hS
    subst hQ
    cases h
    exact W.vret hx hb hr (fun t ht hW => ⟨⟨(), rfl, trivial, by rw [ht]; exact hP9, va_K.moved hW.alike hK, hD9⟩, hS9.F ht⟩) hS9.2.2 dX7_keeps_179
