def LX6_draw_57 (Uformulas : Nat → Option Nat) (Iestimates : Nat → Int32) (Ivariances : Nat → Int32) (Isorts : Nat → Int32) (Iwidths : Nat → Int32) (Icounts : Nat → Int32) (Ireadings : Nat → Nat → Int32) (Icovariances : Nat → Nat → Int32) (Fkinds : Nat → Int32) (Flefts : Nat → Int32) (Frights : Nat → Int32) (Fsize : Int32) (Froot : Int32) (Vdegrees : Nat → Int32) (Vfactors : Nat → Int32) (Vcount : Int32) (v1 : Int32) (v2 : Int32) (pF : Nat) (E126 : Int32 → (Nat → Int32) → (Nat → Int64) → (Nat → Int64) → (Nat → Int64) → (Nat → Int64) → Int64 → Int64 → Int32 → Option (Int32 × (Nat → Int32) × (Nat → Int64) × (Nat → Int64) × (Nat → Int64) × (Nat → Int64) × Int64 × Int64 × Int32)) : Nat → Int64 → Int64 → Int32 → Int32 → (Nat → Int32) → (Nat → Int64) → (Nat → Int64) → (Nat → Int64) → (Nat → Int64) → Int64 → Int64 → Int32 → Option (Int32 × (Nat → Int32) × (Nat → Int64) × (Nat → Int64) × (Nat → Int64) × (Nat → Int64) × Int64 × Int64 × Int32)
  | 0, _, _, _, _, _, _, _, _, _, _, _, _ => none
  | fuel + 1, v4, v6, v8, v9, Udrawn, Fvalues, Fslopes, Bslopes, Bcontributions, Bvariance, BdegreesSum, Cx => (if v2 ≤ v9 then E126 v8 Udrawn Fvalues Fslopes Bslopes Bcontributions Bvariance BdegreesSum Cx else bnd2 (fX4_drawInto Iestimates Isorts Iwidths Icounts Ireadings Udrawn Cx) (fun uA_7 Cx_7 => bnd2 (fX3_reckonBy Fkinds Flefts Frights Fvalues Fsize Froot uA_7) (fun r8 values_8 => (if (lg_cmp v4 ((-1))) = 0 then LX6_draw_57 Uformulas Iestimates Ivariances Isorts Iwidths Icounts Ireadings Icovariances Fkinds Flefts Frights Fsize Froot Vdegrees Vfactors Vcount v1 v2 pF E126 fuel v4 v6 v8 (v9 + 1) uA_7 values_8 Fslopes Bslopes Bcontributions Bvariance BdegreesSum Cx_7 else (if (lg_cmp (r8 - v6) (-v4)) < 0 then LX6_draw_57 Uformulas Iestimates Ivariances Isorts Iwidths Icounts Ireadings Icovariances Fkinds Flefts Frights Fsize Froot Vdegrees Vfactors Vcount v1 v2 pF E126 fuel v4 v6 v8 (v9 + 1) uA_7 values_8 Fslopes Bslopes Bcontributions Bvariance BdegreesSum Cx_7 else (if 0 < (lg_cmp (r8 - v6) v4) then LX6_draw_57 Uformulas Iestimates Ivariances Isorts Iwidths Icounts Ireadings Icovariances Fkinds Flefts Frights Fsize Froot Vdegrees Vfactors Vcount v1 v2 pF E126 fuel v4 v6 v8 (v9 + 1) uA_7 values_8 Fslopes Bslopes Bcontributions Bvariance BdegreesSum Cx_7 else LX6_draw_57 Uformulas Iestimates Ivariances Isorts Iwidths Icounts Ireadings Icovariances Fkinds Flefts Frights Fsize Froot Vdegrees Vfactors Vcount v1 v2 pF E126 fuel v4 v6 (v8 + 1) (v9 + 1) uA_7 values_8 Fslopes Bslopes Bcontributions Bvariance BdegreesSum Cx_7))))))
def fX6_draw (v1 : Int32) (v2 : Int32) (Uformulas : Nat → Option Nat) (Udrawn : Nat → Int32) (Iestimates : Nat → Int32) (Ivariances : Nat → Int32) (Isorts : Nat → Int32) (Iwidths : Nat → Int32) (Icounts : Nat → Int32) (Ireadings : Nat → Nat → Int32) (Icovariances : Nat → Nat → Int32) (Fkinds : Nat → Int32) (Flefts : Nat → Int32) (Frights : Nat → Int32) (Fvalues : Nat → Int64) (Fslopes : Nat → Int64) (Fsize : Int32) (Froot : Int32) (Bslopes : Nat → Int64) (Bcontributions : Nat → Int64) (Bvariance : Int64) (BdegreesSum : Int64) (Vdegrees : Nat → Int32) (Vfactors : Nat → Int32) (Vcount : Int32) (Cx : Int32) (pF : Nat) : Option (Int32 × (Nat → Int32) × (Nat → Int64) × (Nat → Int64) × (Nat → Int64) × (Nat → Int64) × Int64 × Int64 × Int32) := gF Uformulas v1 pF (bnd0 (fX6_checkRange v2 1 100) (bnd6 (fX0_reckon Bslopes Bcontributions Bvariance BdegreesSum Fkinds Flefts Frights Fvalues Fslopes Fsize Froot Iestimates Ivariances Icounts Icovariances) (fun slopes_3 contributions_3 variance_3 degreesSum_3 Fvalues_3 Fslopes_3 => bnd1 (fX0_statedDoubt variance_3 degreesSum_3 Vdegrees Vfactors Vcount) (fun r4 => bnd2 (fX3_reckonBy Fkinds Flefts Frights Fvalues_3 Fsize Froot Iestimates) (fun r5 values_5 => LX6_draw_57 Uformulas Iestimates Ivariances Isorts Iwidths Icounts Ireadings Icovariances Fkinds Flefts Frights Fsize Froot Vdegrees Vfactors Vcount v1 v2 pF (fun (v8 : Int32) (Udrawn : Nat → Int32) (Fvalues : Nat → Int64) (Fslopes : Nat → Int64) (Bslopes : Nat → Int64) (Bcontributions : Nat → Int64) (Bvariance : Int64) (BdegreesSum : Int64) (Cx : Int32) => some (v8, Udrawn, Fvalues, Fslopes, Bslopes, Bcontributions, Bvariance, BdegreesSum, Cx)) 1000 r4 r5 0 0 Udrawn values_5 Fslopes_3 slopes_3 contributions_3 variance_3 degreesSum_3 Cx)))))
abbrev rmX6_draw : Room := { frames := 5, cells := 0, slots := 0, locals := 119 }

set_option maxHeartbeats 40000000 in
set_option maxRecDepth 100000 in
theorem met_X6_draw (l : Launch) (D : va_G) (k : Nat → ClassId) (xL xS : Nat) (aU : Nat → Nat) (aI : Nat → Nat) (aF : Nat → Nat) (aB : Nat → Nat) (aV : Nat → Nat) (aC : Nat → Nat) (sz : Nat) (Uformulas : Nat → Option Nat) (Udrawn : Nat → Int32) (Umodels : Int32) (Iestimates : Nat → Int32) (Ivariances : Nat → Int32) (Isorts : Nat → Int32) (Iwidths : Nat → Int32) (Icounts : Nat → Int32) (Ireadings : Nat → Nat → Int32) (Ifirsts : Nat → Int32) (Iseconds : Nat → Int32) (Icovariances : Nat → Nat → Int32) (Fkinds : Nat → Int32) (Flefts : Nat → Int32) (Frights : Nat → Int32) (Fplaces : Nat → Int32) (Fvalues : Nat → Int64) (Fslopes : Nat → Int64) (Fexponents : Nat → Int32) (Fsize : Int32) (Froot : Int32) (Bslopes : Nat → Int64) (Bcontributions : Nat → Int64) (Bvariance : Int64) (BdegreesSum : Int64) (Vdegrees : Nat → Int32) (Vfactors : Nat → Int32) (Vcount : Int32) (Cx : Int32) (v1 : Int32) (v2 : Int32) (r : Int32) (RUdrawn : Nat → Int32) (RFvalues : Nat → Int64) (RFslopes : Nat → Int64) (RBslopes : Nat → Int64) (RBcontributions : Nat → Int64) (RBvariance : Int64) (RBdegreesSum : Int64) (RCx : Int32) (h : fX6_draw v1 v2 Uformulas Udrawn Iestimates Ivariances Isorts Iwidths Icounts Ireadings Icovariances Fkinds Flefts Frights Fvalues Fslopes Fsize Froot Bslopes Bcontributions Bvariance BdegreesSum Vdegrees Vfactors Vcount Cx (aF 0) = some (r, RUdrawn, RFvalues, RFslopes, RBslopes, RBcontributions, RBvariance, RBdegreesSum, RCx)) : Met l yX6_draw wsX6_draw rmX6_draw (va_Pc [.ref (aU 0), .int v1, .int v2] (PreW D k ((wU k aU (aI 0) xL xS (aB 0) (aV 0) (aC 0) Uformulas Udrawn Umodels) ++ (wI k aI Iestimates Ivariances Isorts Iwidths Icounts Ireadings Ifirsts Iseconds Icovariances) ++ (wF k aF Fkinds Flefts Frights Fplaces Fvalues Fslopes Fexponents Fsize Froot) ++ (wB k aB Bslopes Bcontributions Bvariance BdegreesSum) ++ (wV k aV Vdegrees Vfactors Vcount) ++ (wC k aC Cx)) sz)) (va_Qi (fun r9 (_ : Unit) => r9 = r) (fun _ t => PostW D k (va_A ((wU k aU (aI 0) xL xS (aB 0) (aV 0) (aC 0) Uformulas Udrawn Umodels) ++ (wI k aI Iestimates Ivariances Isorts Iwidths Icounts Ireadings Ifirsts Iseconds Icovariances) ++ (wF k aF Fkinds Flefts Frights Fplaces Fvalues Fslopes Fexponents Fsize Froot) ++ (wB k aB Bslopes Bcontributions Bvariance BdegreesSum) ++ (wV k aV Vdegrees Vfactors Vcount) ++ (wC k aC Cx)) sz) ((wU k aU (aI 0) xL xS (aB 0) (aV 0) (aC 0) Uformulas RUdrawn Umodels) ++ (wI k aI Iestimates Ivariances Isorts Iwidths Icounts Ireadings Ifirsts Iseconds Icovariances) ++ (wF k aF Fkinds Flefts Frights Fplaces RFvalues RFslopes Fexponents Fsize Froot) ++ (wB k aB RBslopes RBcontributions RBvariance RBdegreesSum) ++ (wV k aV Vdegrees Vfactors Vcount) ++ (wC k aC RCx)) t) (va_A ((wU k aU (aI 0) xL xS (aB 0) (aV 0) (aC 0) Uformulas Udrawn Umodels) ++ (wI k aI Iestimates Ivariances Isorts Iwidths Icounts Ireadings Ifirsts Iseconds Icovariances) ++ (wF k aF Fkinds Flefts Frights Fplaces Fvalues Fslopes Fexponents Fsize Froot) ++ (wB k aB Bslopes Bcontributions Bvariance BdegreesSum) ++ (wV k aV Vdegrees Vfactors Vcount) ++ (wC k aC Cx)) sz)) 0 0 (va_A ((wU k aU (aI 0) xL xS (aB 0) (aV 0) (aC 0) Uformulas Udrawn Umodels) ++ (wI k aI Iestimates Ivariances Isorts Iwidths Icounts Ireadings Ifirsts Iseconds Icovariances) ++ (wF k aF Fkinds Flefts Frights Fplaces Fvalues Fslopes Fexponents Fsize Froot) ++ (wB k aB Bslopes Bcontributions Bvariance BdegreesSum) ++ (wV k aV Vdegrees Vfactors Vcount) ++ (wC k aC Cx)) sz) := by
  refine Met.ofW (cc := cX6_draw) (maxL := 12) (ret := (some .int)) (by decide) rfl ?_
  intro p e s m args below meth c s₁ B hml hv
  obtain ⟨hav, hsz, hP, hK, hD0⟩ := hv
  have hx := B.exec
  have hb := B.bytes
  have hr := B.returns
  have hts := atoms_spec (ws := wsX6_draw) B.pre
  have hown : s.vm.findClass RX6 = some m.cls := findClass_of_methodNamed B.named
  have hlocks := B.notSynchronized
  subst hsz
  have hD := hD0.self (sz := s.heap.size)
  clear hD0
  generalize hAe : va_A ((wU k aU (aI 0) xL xS (aB 0) (aV 0) (aC 0) Uformulas Udrawn Umodels) ++ (wI k aI Iestimates Ivariances Isorts Iwidths Icounts Ireadings Ifirsts Iseconds Icovariances) ++ (wF k aF Fkinds Flefts Frights Fplaces Fvalues Fslopes Fexponents Fsize Froot) ++ (wB k aB Bslopes Bcontributions Bvariance BdegreesSum) ++ (wV k aV Vdegrees Vfactors Vcount) ++ (wC k aC Cx)) s.heap.size = A at hD ⊢
  have hA : ∀ q : Nat, s.heap.size ≤ q → A q := fun q h => by rw [← hAe]; exact Or.inr h
  have hS : va_S A s.heap s.heap [] := va_S.rf
  have hl := lv_entry ([.ref (aU 0), .int v1, .int v2]) (n := 12) (Nat.le_of_ble_eq_true rfl)
  rw [show entryFrame m args 12 = entryFrame m ([.ref (aU 0), .int v1, .int v2] : List Value).toArray 12 from by rw [hav], lg_entry_eq]
  generalize (lg_sl ([.ref (aU 0), .int v1, .int v2]) ++ List.replicate (12 - (lg_sl ([.ref (aU 0), .int v1, .int v2])).length) Slot.unset).toArray = ls at hl ⊢
  replace hl : lv_has ls 12 [(0, .ref (aU 0)), (1, .int v1), (2, .int v2)] := hl
  have f10 := hts (.fieldLink RX6 10 "UncertainBook" "inputs" "LUncertainBook$Inputs;") (by decide +kernel)
  have f41 := hts (.fieldLink RX6 41 "UncertainBook" "figures" "LUncertainBook$Budget;") (by decide +kernel)
  have f48 := hts (.fieldLink RX6 48 "UncertainBook" "coverage" "LUncertainBook$Coverage;") (by decide +kernel)
  have f55 := hts (.fieldLink RX6 55 "UncertainBook" "chance" "LUncertainBook$Chance;") (by decide +kernel)
  have f59 := hts (.fieldLink RX6 59 "UncertainBook" "drawn" "[I") (by decide +kernel)
  have f108 := hts (.fieldLink RX6 108 "UncertainBook$Inputs" "estimates" "[I") (by decide +kernel)
  have kc240 := hts (.constantLong RX6 240 (-1)) (by decide +kernel)
  have iX4 : ∀ w ∈ u_ws RX4 TX4 9, w ∈ wsX6_draw := by decide +kernel
  have iX6 : ∀ w ∈ u_ws RX6 TX6 9, w ∈ wsX6_draw := by decide +kernel
  refine w_q (fun Q hQ => ?_)
  unfold fX6_draw at h
  show W p l e rmX6_draw s m args below meth c s.heap [] 0 0 Q (F0 m 0 ls [])
  have LH_57 : ∀ (E126 : Int32 → (Nat → Int32) → (Nat → Int64) → (Nat → Int64) → (Nat → Int64) → (Nat → Int64) → Int64 → Int64 → Int32 → Option (Int32 × (Nat → Int32) × (Nat → Int64) × (Nat → Int64) × (Nat → Int64) × (Nat → Int64) × Int64 × Int64 × Int32)) (hE126 : ∀ (v8 : Int32) (Udrawn : Nat → Int32) (Fvalues : Nat → Int64) (Fslopes : Nat → Int64) (Bslopes : Nat → Int64) (Bcontributions : Nat → Int64) (Bvariance : Int64) (BdegreesSum : Int64) (Cx : Int32), E126 v8 Udrawn Fvalues Fslopes Bslopes Bcontributions Bvariance BdegreesSum Cx = some (r, RUdrawn, RFvalues, RFslopes, RBslopes, RBcontributions, RBvariance, RBdegreesSum, RCx) → ∀ (H : Heap) (locs : List Loc) (ls : Array Slot), va_P D vwCl ((wU k aU (aI 0) xL xS (aB 0) (aV 0) (aC 0) Uformulas Udrawn Umodels) ++ (wI k aI Iestimates Ivariances Isorts Iwidths Icounts Ireadings Ifirsts Iseconds Icovariances) ++ (wF k aF Fkinds Flefts Frights Fplaces Fvalues Fslopes Fexponents Fsize Froot) ++ (wB k aB Bslopes Bcontributions Bvariance BdegreesSum) ++ (wV k aV Vdegrees Vfactors Vcount) ++ (wC k aC Cx)) H → va_D A ((wU k aU (aI 0) xL xS (aB 0) (aV 0) (aC 0) Uformulas Udrawn Umodels) ++ (wI k aI Iestimates Ivariances Isorts Iwidths Icounts Ireadings Ifirsts Iseconds Icovariances) ++ (wF k aF Fkinds Flefts Frights Fplaces Fvalues Fslopes Fexponents Fsize Froot) ++ (wB k aB Bslopes Bcontributions Bvariance BdegreesSum) ++ (wV k aV Vdegrees Vfactors Vcount) ++ (wC k aC Cx)) → va_S A s.heap H locs → lv_has ls 12 [(8, .int v8)] → W p l e rmX6_draw s m args below meth c H locs 0 0 Q (F0 m 126 ls [])) (n : Nat) (v4 : Int64) (v6 : Int64) (v8 : Int32) (v9 : Int32) (Udrawn : Nat → Int32) (Fvalues : Nat → Int64) (Fslopes : Nat → Int64) (Bslopes : Nat → Int64) (Bcontributions : Nat → Int64) (Bvariance : Int64) (BdegreesSum : Int64) (Cx : Int32), LX6_draw_57 Uformulas Iestimates Ivariances Isorts Iwidths Icounts Ireadings Icovariances Fkinds Flefts Frights Fsize Froot Vdegrees Vfactors Vcount v1 v2 (aF 0) E126 n v4 v6 v8 v9 Udrawn Fvalues Fslopes Bslopes Bcontributions Bvariance BdegreesSum Cx = some (r, RUdrawn, RFvalues, RFslopes, RBslopes, RBcontributions, RBvariance, RBdegreesSum, RCx) → ∀ (H : Heap) (locs : List Loc) (ls : Array Slot), va_P D vwCl ((wU k aU (aI 0) xL xS (aB 0) (aV 0) (aC 0) Uformulas Udrawn Umodels) ++ (wI k aI Iestimates Ivariances Isorts Iwidths Icounts Ireadings Ifirsts Iseconds Icovariances) ++ (wF k aF Fkinds Flefts Frights Fplaces Fvalues Fslopes Fexponents Fsize Froot) ++ (wB k aB Bslopes Bcontributions Bvariance BdegreesSum) ++ (wV k aV Vdegrees Vfactors Vcount) ++ (wC k aC Cx)) H → va_D A ((wU k aU (aI 0) xL xS (aB 0) (aV 0) (aC 0) Uformulas Udrawn Umodels) ++ (wI k aI Iestimates Ivariances Isorts Iwidths Icounts Ireadings Ifirsts Iseconds Icovariances) ++ (wF k aF Fkinds Flefts Frights Fplaces Fvalues Fslopes Fexponents Fsize Froot) ++ (wB k aB Bslopes Bcontributions Bvariance BdegreesSum) ++ (wV k aV Vdegrees Vfactors Vcount) ++ (wC k aC Cx)) → va_S A s.heap H locs → lv_has ls 12 [(0, .ref (aU 0)), (2, .int v2), (3, .ref (aF 0)), (4, .long v4), (6, .long v6), (8, .int v8), (9, .int v9)] → W p l e rmX6_draw s m args below meth c H locs 0 0 Q (F0 m 57 ls []) := by
    intro E126 hE126 n
    induction n with
    | zero => intro v4 v6 v8 v9 Udrawn Fvalues Fslopes Bslopes Bcontributions Bvariance BdegreesSum Cx h; simp [LX6_draw_57] at h
    | succ n ih =>
    intro v4 v6 v8 v9 Udrawn Fvalues Fslopes Bslopes Bcontributions Bvariance BdegreesSum Cx h H locs ls hP hD hS hl
    rw [LX6_draw_57] at h
    refine lv_iload hx hb dX6_draw_57 (lv_at hl 6 rfl) ?_
    refine lv_iload_n hx hb dX6_draw_59 rfl (lv_at hl 1 rfl) ?_
    refine lv_icmp_ge (tgt := 126) hx hb dX6_draw_60 (by decide) (fun c6 => ?_) (fun c6 => ?_)
    · replace h := sf_t c6 h
      exact hE126 _ _ _ _ _ _ _ _ _ h _ _ _ hP hD hS (lv_sub hl [5] rfl)
    · replace h := sf_f c6 h
      refine lv_aload_n hx hb dX6_draw_63 rfl (lv_at hl 0 rfl) ?_
      refine va_get (D := D) (ci := 6) (v := .ref (aI 0)) (C := RX6) (T := TX6) (N := 9) hx hb hts iX6 hown hK hP 0 rfl rfl 0 (by decide) f10 (fun _ h9 => h9) rfl dX6_draw_64 ?_
      refine lv_aload_n hx hb dX6_draw_67 rfl (lv_at hl 0 rfl) ?_
      refine va_get (D := D) (ci := 6) (v := .ref (aU 2)) (C := RX6) (T := TX6) (N := 9) hx hb hts iX6 hown hK hP 0 rfl rfl 8 (by decide) f59 (fun _ h9 => h9) rfl dX6_draw_68 ?_
      refine lv_aload_n hx hb dX6_draw_71 rfl (lv_at hl 0 rfl) ?_
      refine va_get (D := D) (ci := 6) (v := .ref (aC 0)) (C := RX6) (T := TX6) (N := 9) hx hb hts iX6 hown hK hP 0 rfl rfl 7 (by decide) f55 (fun _ h9 => h9) rfl dX6_draw_72 ?_
      obtain ⟨uA_7, Cx_7, hc7, h⟩ := bnd2_inv h
      have hPc := hP.sub (ws' := ((wI k aI Iestimates Ivariances Isorts Iwidths Icounts Ireadings Ifirsts Iseconds Icovariances) ++ ([(aU 2, .inl (k 0, 6, .inl Udrawn))]) ++ (wC k aC Cx))) [3, 4, 5, 6, 7, 8, 9, 10, 11, 12, 13, 14, 15, 16, 17, 18, 19, 20, 21, 22, 23, 24, 2, 39] rfl
      have hDc := hD.sub (ws' := ((wI k aI Iestimates Ivariances Isorts Iwidths Icounts Ireadings Ifirsts Iseconds Icovariances) ++ ([(aU 2, .inl (k 0, 6, .inl Udrawn))]) ++ (wC k aC Cx))) [3, 4, 5, 6, 7, 8, 9, 10, 11, 12, 13, 14, 15, 16, 17, 18, 19, 20, 21, 22, 23, 24, 2, 39] rfl rfl
      have hFc := va_free (wc := ((wI k aI Iestimates Ivariances Isorts Iwidths Icounts Ireadings Ifirsts Iseconds Icovariances) ++ ([(aU 2, .inl (k 0, 6, .inl Udrawn))]) ++ (wC k aC Cx))) hD hS hA [3, 4, 5, 6, 7, 8, 9, 10, 11, 12, 13, 14, 15, 16, 17, 18, 19, 20, 21, 22, 23, 24, 2, 39] rfl
      refine xc_v (va_runV (As := [.ref (aU 2), .ref (aC 0)]) (rest := []) ⟨hx, hb, hml, hown, hts⟩ (met_X4_drawInto l D k  aI (aU 2) aC H.size Iestimates Ivariances Isorts Iwidths Icounts Ireadings Ifirsts Iseconds Icovariances Udrawn Cx uA_7 Cx_7 hc7) (cwV 2 hts gX6_draw_X4_drawInto rfl rfl rfl (by decide +kernel) ⟨Nat.le_of_ble_eq_true rfl, Nat.le_of_ble_eq_true rfl⟩) ⟨pw_blind, va_recv hK hPc (ci := 4) (q0 := 0) rfl rfl, pw_start hPc hK hDc⟩ rfl rfl hl.1 rfl (lv_room (Nat.le_of_ble_eq_true rfl)) dX6_draw_75 ⟨Nat.zero_le _, Nat.zero_le _⟩) hS hFc (fun H1 locs hP1 hD1 hk1 hS => ?_)
      obtain ⟨hP, hD⟩ := vj (ws' := ((wU k aU (aI 0) xL xS (aB 0) (aV 0) (aC 0) Uformulas uA_7 Umodels) ++ (wI k aI Iestimates Ivariances Isorts Iwidths Icounts Ireadings Ifirsts Iseconds Icovariances) ++ (wF k aF Fkinds Flefts Frights Fplaces Fvalues Fslopes Fexponents Fsize Froot) ++ (wB k aB Bslopes Bcontributions Bvariance BdegreesSum) ++ (wV k aV Vdegrees Vfactors Vcount) ++ (wC k aC Cx_7))) (w1 := ((wI k aI Iestimates Ivariances Isorts Iwidths Icounts Ireadings Ifirsts Iseconds Icovariances) ++ ([(aU 2, .inl (k 0, 6, .inl uA_7))]) ++ (wC k aC Cx_7))) hP hD [3, 4, 5, 6, 7, 8, 9, 10, 11, 12, 13, 14, 15, 16, 17, 18, 19, 20, 21, 22, 23, 24, 2, 39] [0, 1, 25, 26, 27, 28, 29, 30, 31, 32, 33, 34, 35, 36, 37, 38] [0, 1, 38, 16, 17, 18, 19, 20, 21, 22, 23, 24, 25, 26, 27, 28, 29, 30, 31, 32, 33, 34, 35, 36, 37, 2, 3, 4, 5, 6, 7, 8, 9, 10, 11, 12, 13, 14, 15, 39] rfl rfl rfl rfl rfl hk1 hFc hP1 hD1
      clear hP1 hD1 hk1 hFc
      generalize H1 = H at hP hS ⊢
      refine lv_aload_n hx hb dX6_draw_78 rfl (lv_at hl 2 rfl) ?_
      refine lv_aload_n hx hb dX6_draw_79 rfl (lv_at hl 0 rfl) ?_
      refine va_get (D := D) (ci := 6) (v := .ref (aU 2)) (C := RX6) (T := TX6) (N := 9) hx hb hts iX6 hown hK hP 0 rfl rfl 8 (by decide) f59 (fun _ h9 => h9) rfl dX6_draw_80 ?_
      obtain ⟨r8, values_8, hc8, h⟩ := bnd2_inv h
      have hPc := hP.sub (ws' := ((wF k aF Fkinds Flefts Frights Fplaces Fvalues Fslopes Fexponents Fsize Froot) ++ ([(aU 2, .inl (k 0, 6, .inl uA_7))]))) [25, 26, 27, 28, 29, 30, 31, 32, 2] rfl
      have hDc := hD.sub (ws' := ((wF k aF Fkinds Flefts Frights Fplaces Fvalues Fslopes Fexponents Fsize Froot) ++ ([(aU 2, .inl (k 0, 6, .inl uA_7))]))) [25, 26, 27, 28, 29, 30, 31, 32, 2] rfl rfl
      have hFc := va_free (wc := ((wF k aF Fkinds Flefts Frights Fplaces Fvalues Fslopes Fexponents Fsize Froot) ++ ([(aU 2, .inl (k 0, 6, .inl uA_7))]))) hD hS hA [25, 26, 27, 28, 29, 30, 31, 32, 2] rfl
      refine xc_l (va_runV (As := [.ref (aU 2)]) (rest := []) ⟨hx, hb, hml, hown, hts⟩ (met_X3_reckonBy l D k  aF (aU 2) H.size Fkinds Flefts Frights Fplaces Fvalues Fslopes Fexponents Fsize Froot uA_7 r8 values_8 hc8) (cwV 1 hts gX6_draw_X3_reckonBy rfl rfl rfl (by decide +kernel) ⟨Nat.le_of_ble_eq_true rfl, Nat.le_of_ble_eq_true rfl⟩) ⟨pw_blind, va_recv hK hPc (ci := 3) (q0 := 0) rfl rfl, pw_start hPc hK hDc⟩ rfl rfl hl.1 rfl (lv_room (Nat.le_of_ble_eq_true rfl)) dX6_draw_83 ⟨Nat.zero_le _, Nat.zero_le _⟩) hS hFc (fun H1 locs hP1 hD1 hk1 hS => ?_)
      obtain ⟨hP, hD⟩ := vj (ws' := ((wU k aU (aI 0) xL xS (aB 0) (aV 0) (aC 0) Uformulas uA_7 Umodels) ++ (wI k aI Iestimates Ivariances Isorts Iwidths Icounts Ireadings Ifirsts Iseconds Icovariances) ++ (wF k aF Fkinds Flefts Frights Fplaces values_8 Fslopes Fexponents Fsize Froot) ++ (wB k aB Bslopes Bcontributions Bvariance BdegreesSum) ++ (wV k aV Vdegrees Vfactors Vcount) ++ (wC k aC Cx_7))) (w1 := ((wF k aF Fkinds Flefts Frights Fplaces values_8 Fslopes Fexponents Fsize Froot) ++ ([(aU 2, .inl (k 0, 6, .inl uA_7))]))) hP hD [25, 26, 27, 28, 29, 30, 31, 32, 2] [0, 1, 3, 4, 5, 6, 7, 8, 9, 10, 11, 12, 13, 14, 15, 16, 17, 18, 19, 20, 21, 22, 23, 24, 33, 34, 35, 36, 37, 38, 39] [0, 1, 39, 2, 3, 4, 5, 6, 7, 8, 9, 10, 11, 12, 13, 14, 15, 16, 17, 18, 19, 20, 21, 22, 23, 31, 32, 33, 34, 35, 36, 37, 38, 24, 25, 26, 27, 28, 29, 30] rfl rfl rfl rfl rfl hk1 hFc hP1 hD1
      clear hP1 hD1 hk1 hFc
      generalize H1 = H at hP hS ⊢
      refine lv_lload hx hb dX6_draw_86 (lv_at hl 4 rfl) ?_
      refine lv_lsub hx hb dX6_draw_88 ?_
      refine lv_lstore (lv' := [(10, .long (r8 - v6)), (0, .ref (aU 0)), (2, .int v2), (3, .ref (aF 0)), (4, .long v4), (6, .long v6), (8, .int v8), (9, .int v9)]) hx hb dX6_draw_89 hl (by decide) rfl (fun ls hl => ?_)
      refine lv_lload hx hb dX6_draw_91 (lv_at hl 4 rfl) ?_
      refine lv_ldc2 (v := -1) hx hb hown kc240 dX6_draw_93 ?_
      refine W.lcmp hx hb dX6_draw_96 ?_
      refine lv_if_eq (tgt := 120) hx hb dX6_draw_97 (by decide) (fun c9 => ?_) (fun c9 => ?_)
      · replace h := sf_t c9 h
        refine lv_iinc (v := v9 + 1) (lv' := [(9, .int (v9 + 1)), (10, .long (r8 - v6)), (0, .ref (aU 0)), (2, .int v2), (3, .ref (aF 0)), (4, .long v4), (6, .long v6), (8, .int v8)]) hx hb dX6_draw_120 hl (k := 7) rfl rfl (by decide) rfl (fun ls hl => ?_)
        refine lv_goto (tgt := 57) hx hb dX6_draw_123 (by decide) ?_
        exact ih _ _ _ _ _ _ _ _ _ _ _ _ h _ _ _ hP hD hS (lv_sub hl [2, 3, 4, 5, 6, 7, 0] rfl)
      · replace h := sf_f c9 h
        refine lv_lload hx hb dX6_draw_100 (lv_at hl 0 rfl) ?_
        refine lv_lload hx hb dX6_draw_102 (lv_at hl 4 rfl) ?_
        refine lv_lneg hx hb dX6_draw_104 ?_
        refine W.lcmp hx hb dX6_draw_105 ?_
        refine lv_if_lt (tgt := 120) hx hb dX6_draw_106 (by decide) (fun c10 => ?_) (fun c10 => ?_)
        · replace h := sf_t c10 h
          refine lv_iinc (v := v9 + 1) (lv' := [(9, .int (v9 + 1)), (10, .long (r8 - v6)), (0, .ref (aU 0)), (2, .int v2), (3, .ref (aF 0)), (4, .long v4), (6, .long v6), (8, .int v8)]) hx hb dX6_draw_120 hl (k := 7) rfl rfl (by decide) rfl (fun ls hl => ?_)
          refine lv_goto (tgt := 57) hx hb dX6_draw_123 (by decide) ?_
          exact ih _ _ _ _ _ _ _ _ _ _ _ _ h _ _ _ hP hD hS (lv_sub hl [2, 3, 4, 5, 6, 7, 0] rfl)
        · replace h := sf_f c10 h
          refine lv_lload hx hb dX6_draw_109 (lv_at hl 0 rfl) ?_
          refine lv_lload hx hb dX6_draw_111 (lv_at hl 4 rfl) ?_
          refine W.lcmp hx hb dX6_draw_113 ?_
          refine lv_if_gt (tgt := 120) hx hb dX6_draw_114 (by decide) (fun c11 => ?_) (fun c11 => ?_)
          · replace h := sf_t c11 h
            refine lv_iinc (v := v9 + 1) (lv' := [(9, .int (v9 + 1)), (10, .long (r8 - v6)), (0, .ref (aU 0)), (2, .int v2), (3, .ref (aF 0)), (4, .long v4), (6, .long v6), (8, .int v8)]) hx hb dX6_draw_120 hl (k := 7) rfl rfl (by decide) rfl (fun ls hl => ?_)
            refine lv_goto (tgt := 57) hx hb dX6_draw_123 (by decide) ?_
            exact ih _ _ _ _ _ _ _ _ _ _ _ _ h _ _ _ hP hD hS (lv_sub hl [2, 3, 4, 5, 6, 7, 0] rfl)
          · replace h := sf_f c11 h
            refine lv_iinc (v := v8 + 1) (lv' := [(8, .int (v8 + 1)), (10, .long (r8 - v6)), (0, .ref (aU 0)), (2, .int v2), (3, .ref (aF 0)), (4, .long v4), (6, .long v6), (9, .int v9)]) hx hb dX6_draw_117 hl (k := 6) rfl rfl (by decide) rfl (fun ls hl => ?_)
            refine lv_iinc (v := v9 + 1) (lv' := [(9, .int (v9 + 1)), (8, .int (v8 + 1)), (10, .long (r8 - v6)), (0, .ref (aU 0)), (2, .int v2), (3, .ref (aF 0)), (4, .long v4), (6, .long v6)]) hx hb dX6_draw_120 hl (k := 7) rfl rfl (by decide) rfl (fun ls hl => ?_)
            refine lv_goto (tgt := 57) hx hb dX6_draw_123 (by decide) ?_
            exact ih _ _ _ _ _ _ _ _ _ _ _ _ h _ _ _ hP hD hS (lv_sub hl [3, 4, 5, 6, 7, 1, 0] rfl)
  suffices main : ∀ (H : Heap) (locs : List Loc) (ls : Array Slot), va_P D vwCl ((wU k aU (aI 0) xL xS (aB 0) (aV 0) (aC 0) Uformulas Udrawn Umodels) ++ (wI k aI Iestimates Ivariances Isorts Iwidths Icounts Ireadings Ifirsts Iseconds Icovariances) ++ (wF k aF Fkinds Flefts Frights Fplaces Fvalues Fslopes Fexponents Fsize Froot) ++ (wB k aB Bslopes Bcontributions Bvariance BdegreesSum) ++ (wV k aV Vdegrees Vfactors Vcount) ++ (wC k aC Cx)) H → va_D A ((wU k aU (aI 0) xL xS (aB 0) (aV 0) (aC 0) Uformulas Udrawn Umodels) ++ (wI k aI Iestimates Ivariances Isorts Iwidths Icounts Ireadings Ifirsts Iseconds Icovariances) ++ (wF k aF Fkinds Flefts Frights Fplaces Fvalues Fslopes Fexponents Fsize Froot) ++ (wB k aB Bslopes Bcontributions Bvariance BdegreesSum) ++ (wV k aV Vdegrees Vfactors Vcount) ++ (wC k aC Cx)) → va_S A s.heap H locs → lv_has ls 12 [(0, .ref (aU 0)), (1, .int v1), (2, .int v2)] → W p l e rmX6_draw s m args below meth c H locs 0 0 Q (F0 m 0 ls []) from main _ _ _ hP hD hS hl
  clear hP hD hS hl ls hAe
  intro H locs ls hP hD hS hl
  refine lv_aload_n hx hb dX6_draw_0 rfl (lv_at hl 0 rfl) ?_
  refine lv_iload_n hx hb dX6_draw_1 rfl (lv_at hl 1 rfl) ?_
  obtain ⟨hg1, h⟩ := gF_inv h
  have hPc := hP.sub (ws' := wU k aU (aI 0) xL xS (aB 0) (aV 0) (aC 0) Uformulas Udrawn Umodels) [0, 1, 2] rfl
  have hDc := hD.sub (ws' := wU k aU (aI 0) xL xS (aB 0) (aV 0) (aC 0) Uformulas Udrawn Umodels) [0, 1, 2] rfl rfl
  have hFc := va_free (wc := wU k aU (aI 0) xL xS (aB 0) (aV 0) (aC 0) Uformulas Udrawn Umodels) hD hS hA [0, 1, 2] rfl
  refine xc_r (va_runV (As := [.int v1]) (rest := []) ⟨hx, hb, hml, hown, hts⟩ (met_X6_formulaOf l D k aU (aI 0) xL xS (aB 0) (aV 0) (aC 0) H.size Uformulas Udrawn Umodels v1 _ hg1) (cwV 1 hts gX6_draw_X6_formulaOf rfl rfl rfl (by decide +kernel) ⟨Nat.le_of_ble_eq_true rfl, Nat.le_of_ble_eq_true rfl⟩) ⟨pw_blind, va_recv hK hPc (ci := 6) (q0 := 0) rfl rfl, pw_start hPc hK hDc⟩ rfl rfl hl.1 rfl (lv_room (Nat.le_of_ble_eq_true rfl)) dX6_draw_2 ⟨Nat.zero_le _, Nat.zero_le _⟩) hS hFc (fun H1 locs hP1 hD1 hk1 hS => ?_)
  obtain ⟨hP, hD⟩ := vk hP hD [0, 1, 2] rfl hk1 hP1
  clear hP1 hD1 hk1 hFc
  generalize H1 = H at hP hS ⊢
  refine lv_astore_n (lv' := [(3, .ref (aF 0)), (0, .ref (aU 0)), (1, .int v1), (2, .int v2)]) hx hb dX6_draw_5 rfl hl (by decide) rfl (fun ls hl => ?_)
  refine lv_iload_n hx hb dX6_draw_6 rfl (lv_at hl 3 rfl) ?_
  refine lv_iconst (v := 1) hx hb dX6_draw_7 (by decide) ?_
  refine lv_bipush (v := 100) hx hb dX6_draw_8 (by decide) ?_
  obtain ⟨hc2, h⟩ := bnd0_inv h
  have hPc := hP.sub (ws' := ([] : va_W)) [] rfl
  have hDc := hD.sub (ws' := ([] : va_W)) [] rfl rfl
  have hFc := va_free (wc := ([] : va_W)) hD hS hA [] rfl
  refine xc_v (va_runS (As := [.int v2, .int 1, .int 100]) (rest := []) ⟨hx, hb, hml, hown, hts⟩ (met_X6_checkRange l D k  H.size v2 1 100 hc2) (va_cwS 3 hts gX6_draw_X6_checkRange rfl rfl rfl (by decide +kernel) ⟨Nat.le_of_ble_eq_true rfl, Nat.le_of_ble_eq_true rfl⟩) ⟨pw_blind, pw_start hPc hK hDc⟩ rfl rfl hl.1 rfl (lv_room (Nat.le_of_ble_eq_true rfl)) dX6_draw_10 ⟨Nat.zero_le _, Nat.zero_le _⟩) hS hFc (fun H1 locs hP1 hD1 hk1 hS => ?_)
  obtain ⟨hP, hD⟩ := vk hP hD [] rfl hk1 hP1
  clear hP1 hD1 hk1 hFc
  generalize H1 = H at hP hS ⊢
  refine lv_aload_n hx hb dX6_draw_13 rfl (lv_at hl 1 rfl) ?_
  refine va_get (D := D) (ci := 6) (v := .ref (aB 0)) (C := RX6) (T := TX6) (N := 9) hx hb hts iX6 hown hK hP 0 rfl rfl 5 (by decide) f41 (fun _ h9 => h9) rfl dX6_draw_14 ?_
  refine lv_aload_n hx hb dX6_draw_17 rfl (lv_at hl 0 rfl) ?_
  refine lv_aload_n hx hb dX6_draw_18 rfl (lv_at hl 1 rfl) ?_
  refine va_get (D := D) (ci := 6) (v := .ref (aI 0)) (C := RX6) (T := TX6) (N := 9) hx hb hts iX6 hown hK hP 0 rfl rfl 0 (by decide) f10 (fun _ h9 => h9) rfl dX6_draw_19 ?_
  obtain ⟨slopes_3, contributions_3, variance_3, degreesSum_3, Fvalues_3, Fslopes_3, hc3, h⟩ := bnd6_inv h
  have hPc := hP.sub (ws' := ((wB k aB Bslopes Bcontributions Bvariance BdegreesSum) ++ (wF k aF Fkinds Flefts Frights Fplaces Fvalues Fslopes Fexponents Fsize Froot) ++ (wI k aI Iestimates Ivariances Isorts Iwidths Icounts Ireadings Ifirsts Iseconds Icovariances))) [33, 34, 35, 25, 26, 27, 28, 29, 30, 31, 32, 3, 4, 5, 6, 7, 8, 9, 10, 11, 12, 13, 14, 15, 16, 17, 18, 19, 20, 21, 22, 23, 24] rfl
  have hDc := hD.sub (ws' := ((wB k aB Bslopes Bcontributions Bvariance BdegreesSum) ++ (wF k aF Fkinds Flefts Frights Fplaces Fvalues Fslopes Fexponents Fsize Froot) ++ (wI k aI Iestimates Ivariances Isorts Iwidths Icounts Ireadings Ifirsts Iseconds Icovariances))) [33, 34, 35, 25, 26, 27, 28, 29, 30, 31, 32, 3, 4, 5, 6, 7, 8, 9, 10, 11, 12, 13, 14, 15, 16, 17, 18, 19, 20, 21, 22, 23, 24] rfl rfl
  have hFc := va_free (wc := ((wB k aB Bslopes Bcontributions Bvariance BdegreesSum) ++ (wF k aF Fkinds Flefts Frights Fplaces Fvalues Fslopes Fexponents Fsize Froot) ++ (wI k aI Iestimates Ivariances Isorts Iwidths Icounts Ireadings Ifirsts Iseconds Icovariances))) hD hS hA [33, 34, 35, 25, 26, 27, 28, 29, 30, 31, 32, 3, 4, 5, 6, 7, 8, 9, 10, 11, 12, 13, 14, 15, 16, 17, 18, 19, 20, 21, 22, 23, 24] rfl
  refine xc_v (va_runV (As := [.ref (aF 0), .ref (aI 0)]) (rest := []) ⟨hx, hb, hml, hown, hts⟩ (met_X0_reckon l D k  aB aF aI H.size Bslopes Bcontributions Bvariance BdegreesSum Fkinds Flefts Frights Fplaces Fvalues Fslopes Fexponents Fsize Froot Iestimates Ivariances Isorts Iwidths Icounts Ireadings Ifirsts Iseconds Icovariances slopes_3 contributions_3 variance_3 degreesSum_3 Fvalues_3 Fslopes_3 hc3) (cwV 2 hts gX6_draw_X0_reckon rfl rfl rfl (by decide +kernel) ⟨Nat.le_of_ble_eq_true rfl, Nat.le_of_ble_eq_true rfl⟩) ⟨pw_blind, va_recv hK hPc (ci := 0) (q0 := 0) rfl rfl, pw_start hPc hK hDc⟩ rfl rfl hl.1 rfl (lv_room (Nat.le_of_ble_eq_true rfl)) dX6_draw_22 ⟨Nat.zero_le _, Nat.zero_le _⟩) hS hFc (fun H1 locs hP1 hD1 hk1 hS => ?_)
  obtain ⟨hP, hD⟩ := vj (ws' := ((wU k aU (aI 0) xL xS (aB 0) (aV 0) (aC 0) Uformulas Udrawn Umodels) ++ (wI k aI Iestimates Ivariances Isorts Iwidths Icounts Ireadings Ifirsts Iseconds Icovariances) ++ (wF k aF Fkinds Flefts Frights Fplaces Fvalues_3 Fslopes_3 Fexponents Fsize Froot) ++ (wB k aB slopes_3 contributions_3 variance_3 degreesSum_3) ++ (wV k aV Vdegrees Vfactors Vcount) ++ (wC k aC Cx))) (w1 := ((wB k aB slopes_3 contributions_3 variance_3 degreesSum_3) ++ (wF k aF Fkinds Flefts Frights Fplaces Fvalues_3 Fslopes_3 Fexponents Fsize Froot) ++ (wI k aI Iestimates Ivariances Isorts Iwidths Icounts Ireadings Ifirsts Iseconds Icovariances))) hP hD [33, 34, 35, 25, 26, 27, 28, 29, 30, 31, 32, 3, 4, 5, 6, 7, 8, 9, 10, 11, 12, 13, 14, 15, 16, 17, 18, 19, 20, 21, 22, 23, 24] [0, 1, 2, 36, 37, 38, 39] [0, 1, 2, 18, 19, 20, 21, 22, 23, 24, 25, 26, 27, 28, 29, 30, 31, 32, 33, 34, 35, 36, 37, 38, 39, 10, 11, 12, 13, 14, 15, 16, 17, 7, 8, 9, 3, 4, 5, 6] rfl rfl rfl rfl rfl hk1 hFc hP1 hD1
  clear hP1 hD1 hk1 hFc
  generalize H1 = H at hP hS ⊢
  refine lv_aload_n hx hb dX6_draw_25 rfl (lv_at hl 1 rfl) ?_
  refine va_get (D := D) (ci := 6) (v := .ref (aB 0)) (C := RX6) (T := TX6) (N := 9) hx hb hts iX6 hown hK hP 0 rfl rfl 5 (by decide) f41 (fun _ h9 => h9) rfl dX6_draw_26 ?_
  refine lv_aload_n hx hb dX6_draw_29 rfl (lv_at hl 1 rfl) ?_
  refine va_get (D := D) (ci := 6) (v := .ref (aV 0)) (C := RX6) (T := TX6) (N := 9) hx hb hts iX6 hown hK hP 0 rfl rfl 6 (by decide) f48 (fun _ h9 => h9) rfl dX6_draw_30 ?_
  obtain ⟨r4, hc4, h⟩ := bnd1_inv h
  have hPc := hP.sub (ws' := ((wB k aB slopes_3 contributions_3 variance_3 degreesSum_3) ++ (wV k aV Vdegrees Vfactors Vcount))) [33, 34, 35, 36, 37, 38] rfl
  have hDc := hD.sub (ws' := ((wB k aB slopes_3 contributions_3 variance_3 degreesSum_3) ++ (wV k aV Vdegrees Vfactors Vcount))) [33, 34, 35, 36, 37, 38] rfl rfl
  have hFc := va_free (wc := ((wB k aB slopes_3 contributions_3 variance_3 degreesSum_3) ++ (wV k aV Vdegrees Vfactors Vcount))) hD hS hA [33, 34, 35, 36, 37, 38] rfl
  refine xc_l (va_runV (As := [.ref (aV 0)]) (rest := []) ⟨hx, hb, hml, hown, hts⟩ (met_X0_statedDoubt l D k  aB aV H.size slopes_3 contributions_3 variance_3 degreesSum_3 Vdegrees Vfactors Vcount r4 hc4) (cwV 1 hts gX6_draw_X0_statedDoubt rfl rfl rfl (by decide +kernel) ⟨Nat.le_of_ble_eq_true rfl, Nat.le_of_ble_eq_true rfl⟩) ⟨pw_blind, va_recv hK hPc (ci := 0) (q0 := 0) rfl rfl, pw_start hPc hK hDc⟩ rfl rfl hl.1 rfl (lv_room (Nat.le_of_ble_eq_true rfl)) dX6_draw_33 ⟨Nat.zero_le _, Nat.zero_le _⟩) hS hFc (fun H1 locs hP1 hD1 hk1 hS => ?_)
  obtain ⟨hP, hD⟩ := vk hP hD [33, 34, 35, 36, 37, 38] rfl hk1 hP1
  clear hP1 hD1 hk1 hFc
  generalize H1 = H at hP hS ⊢
  refine lv_lstore (lv' := [(4, .long r4), (3, .ref (aF 0)), (0, .ref (aU 0)), (1, .int v1), (2, .int v2)]) hx hb dX6_draw_36 hl (by decide) rfl (fun ls hl => ?_)
  refine lv_aload_n hx hb dX6_draw_38 rfl (lv_at hl 1 rfl) ?_
  refine lv_aload_n hx hb dX6_draw_39 rfl (lv_at hl 2 rfl) ?_
  refine va_get (D := D) (ci := 6) (v := .ref (aI 0)) (C := RX6) (T := TX6) (N := 9) hx hb hts iX6 hown hK hP 0 rfl rfl 0 (by decide) f10 (fun _ h9 => h9) rfl dX6_draw_40 ?_
  refine va_get (D := D) (ci := 4) (v := .ref (aI 1)) (C := RX4) (T := TX4) (N := 9) hx hb hts iX4 hown hK hP 3 rfl rfl 0 (by decide) f108 (fun _ h9 => h9) rfl dX6_draw_43 ?_
  obtain ⟨r5, values_5, hc5, h⟩ := bnd2_inv h
  have hPc := hP.sub (ws' := ((wF k aF Fkinds Flefts Frights Fplaces Fvalues_3 Fslopes_3 Fexponents Fsize Froot) ++ ([(aI 1, .inl (k 0, 6, .inl Iestimates))]))) [25, 26, 27, 28, 29, 30, 31, 32, 4] rfl
  have hDc := hD.sub (ws' := ((wF k aF Fkinds Flefts Frights Fplaces Fvalues_3 Fslopes_3 Fexponents Fsize Froot) ++ ([(aI 1, .inl (k 0, 6, .inl Iestimates))]))) [25, 26, 27, 28, 29, 30, 31, 32, 4] rfl rfl
  have hFc := va_free (wc := ((wF k aF Fkinds Flefts Frights Fplaces Fvalues_3 Fslopes_3 Fexponents Fsize Froot) ++ ([(aI 1, .inl (k 0, 6, .inl Iestimates))]))) hD hS hA [25, 26, 27, 28, 29, 30, 31, 32, 4] rfl
  refine xc_l (va_runV (As := [.ref (aI 1)]) (rest := []) ⟨hx, hb, hml, hown, hts⟩ (met_X3_reckonBy l D k  aF (aI 1) H.size Fkinds Flefts Frights Fplaces Fvalues_3 Fslopes_3 Fexponents Fsize Froot Iestimates r5 values_5 hc5) (cwV 1 hts gX6_draw_X3_reckonBy rfl rfl rfl (by decide +kernel) ⟨Nat.le_of_ble_eq_true rfl, Nat.le_of_ble_eq_true rfl⟩) ⟨pw_blind, va_recv hK hPc (ci := 3) (q0 := 0) rfl rfl, pw_start hPc hK hDc⟩ rfl rfl hl.1 rfl (lv_room (Nat.le_of_ble_eq_true rfl)) dX6_draw_46 ⟨Nat.zero_le _, Nat.zero_le _⟩) hS hFc (fun H1 locs hP1 hD1 hk1 hS => ?_)
  obtain ⟨hP, hD⟩ := vj (ws' := ((wU k aU (aI 0) xL xS (aB 0) (aV 0) (aC 0) Uformulas Udrawn Umodels) ++ (wI k aI Iestimates Ivariances Isorts Iwidths Icounts Ireadings Ifirsts Iseconds Icovariances) ++ (wF k aF Fkinds Flefts Frights Fplaces values_5 Fslopes_3 Fexponents Fsize Froot) ++ (wB k aB slopes_3 contributions_3 variance_3 degreesSum_3) ++ (wV k aV Vdegrees Vfactors Vcount) ++ (wC k aC Cx))) (w1 := ((wF k aF Fkinds Flefts Frights Fplaces values_5 Fslopes_3 Fexponents Fsize Froot) ++ ([(aI 1, .inl (k 0, 6, .inl Iestimates))]))) hP hD [25, 26, 27, 28, 29, 30, 31, 32, 4] [0, 1, 2, 3, 5, 6, 7, 8, 9, 10, 11, 12, 13, 14, 15, 16, 17, 18, 19, 20, 21, 22, 23, 24, 33, 34, 35, 36, 37, 38, 39] [0, 1, 2, 3, 39, 4, 5, 6, 7, 8, 9, 10, 11, 12, 13, 14, 15, 16, 17, 18, 19, 20, 21, 22, 23, 31, 32, 33, 34, 35, 36, 37, 38, 24, 25, 26, 27, 28, 29, 30] rfl rfl rfl rfl rfl hk1 hFc hP1 hD1
  clear hP1 hD1 hk1 hFc
  generalize H1 = H at hP hS ⊢
  refine lv_lstore (lv' := [(6, .long r5), (4, .long r4), (3, .ref (aF 0)), (0, .ref (aU 0)), (1, .int v1), (2, .int v2)]) hx hb dX6_draw_49 hl (by decide) rfl (fun ls hl => ?_)
  refine lv_iconst (v := 0) hx hb dX6_draw_51 (by decide) ?_
  refine lv_istore (lv' := [(8, .int 0), (6, .long r5), (4, .long r4), (3, .ref (aF 0)), (0, .ref (aU 0)), (1, .int v1), (2, .int v2)]) hx hb dX6_draw_52 hl (by decide) rfl (fun ls hl => ?_)
  refine lv_iconst (v := 0) hx hb dX6_draw_54 (by decide) ?_
  refine lv_istore (lv' := [(9, .int 0), (8, .int 0), (6, .long r5), (4, .long r4), (3, .ref (aF 0)), (0, .ref (aU 0)), (1, .int v1), (2, .int v2)]) hx hb dX6_draw_55 hl (by decide) rfl (fun ls hl => ?_)
  refine LH_57 _ (fun v8 Udrawn Fvalues Fslopes Bslopes Bcontributions Bvariance BdegreesSum Cx h H locs ls hP hD hS hl => ?_) _ _ _ _ _ _ _ _ _ _ _ _ _ h _ _ _ hP hD hS (lv_sub hl [5, 7, 4, 3, 2, 1, 0] rfl)
  · skip
    refine lv_iload hx hb dX6_draw_126 (lv_at hl 0 rfl) ?_
    have hP9 := hP
    have hD9 := hD
    have hS9 := hS
    subst hQ
    cases h
    exact W.iret hx hb hr (fun t ht hW => ⟨⟨_, (), rfl, rfl, by rw [ht]; exact hP9, va_K.moved hW.alike hK, hD9⟩, hS9.F ht⟩) hS9.2.2 dX6_draw_128
