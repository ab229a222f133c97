/-! ===== all the formulas ===== -/
/-- what a formula's cells hold: five rows of ints, two of longs, its size, its root -/
abbrev FC : Type := (Nat → Nat → Int32) × (Nat → Nat → Int64) × Int32 × Int32
abbrev wFc (k : Nat → ClassId) (a : Nat → Nat) (X : FC) : va_W := wF k a (X.1 0) (X.1 1) (X.1 2) (X.1 3) (X.2.1 0) (X.2.1 1) (X.1 4) X.2.2.1 X.2.2.2
def FW (k : Nat → ClassId) (aF : Nat → Nat → Nat) (X : Nat → FC) (L : List Nat) : va_W := L.flatMap (fun i => wFc k (aF i) (X i))
theorem FW_cons {k : Nat → ClassId} {aF : Nat → Nat → Nat} {X : Nat → FC} {i : Nat} {L : List Nat} : FW k aF X (i :: L) = wFc k (aF i) (X i) ++ FW k aF X L := List.flatMap_cons
theorem FW_congr {k : Nat → ClassId} {aF aG : Nat → Nat → Nat} {X Y : Nat → FC} : ∀ {L : List Nat}, (∀ i ∈ L, X i = Y i ∧ aF i = aG i) → FW k aF X L = FW k aG Y L
  | [], _ => rfl
  | i :: L, h => by
    rw [FW_cons, FW_cons, (h i List.mem_cons_self).1, (h i List.mem_cons_self).2, FW_congr (L := L) (fun j hj => h j (List.mem_cons_of_mem _ hj))]
theorem FW_perm {k : Nat → ClassId} {aF : Nat → Nat → Nat} {X : Nat → FC} {L L' : List Nat} (h : L.Perm L') : (FW k aF X L).Perm (FW k aF X L') := h.flatMap_right _
def others (c i : Nat) : List Nat := (List.range c).erase i
theorem others_ne {c i j : Nat} (h : j ∈ others c i) : j ≠ i := fun e => by
  subst e
  exact (List.nodup_range.not_mem_erase) h
theorem FW_pick {k : Nat → ClassId} {aF : Nat → Nat → Nat} {X : Nat → FC} {c i : Nat} (hi : i < c) : (FW k aF X (List.range c)).Perm (wFc k (aF i) (X i) ++ FW k aF X (others c i)) := by
  rw [← FW_cons]
  exact FW_perm (List.perm_cons_erase (List.mem_range.mpr hi))
def setF (X : Nat → FC) (i : Nat) (Y : FC) : Nat → FC := fun j => if j = i then Y else X j
theorem FW_put {k : Nat → ClassId} {aF : Nat → Nat → Nat} {X : Nat → FC} {Y : FC} {c i : Nat} (hi : i < c) : (wFc k (aF i) Y ++ FW k aF X (others c i)).Perm (FW k aF (setF X i Y) (List.range c)) := by
  have e1 : wFc k (aF i) Y = wFc k (aF i) (setF X i Y i) := by
    show _ = wFc k (aF i) (if i = i then Y else X i)
    rw [if_pos rfl]
  have e2 : FW k aF X (others c i) = FW k aF (setF X i Y) (others c i) := FW_congr (fun j hj => ⟨(if_neg (others_ne hj)).symm, rfl⟩)
  rw [e1, e2]
  exact (FW_pick hi).symm
/-- two lists with the same things in them -/
theorem pmc {l1 l2 : va_W} (h : ∀ [BEq (Nat × va_E)] [LawfulBEq (Nat × va_E)] (a : Nat × va_E), l1.count a = l2.count a) : l1.Perm l2 := by
  let d : DecidableEq (Nat × va_E) := fun a b => Classical.propDecidable (a = b)
  let b : BEq (Nat × va_E) := @instBEqOfDecidableEq _ d
  have lb : @LawfulBEq (Nat × va_E) b := @LawfulBEq.mk _ b (@ReflBEq.mk _ b (fun {a} => @decide_eq_true (a = a) (d a a) rfl)) (fun {x y} h => @of_decide_eq_true (x = y) (d x y) h)
  exact (@List.perm_iff_count _ b lb _ _).mpr (fun a => @h b lb a)
/-- the row of formulas in the heap -/
def fRow (c : Nat) (aF : Nat → Nat → Nat) : Nat → Option Nat := fun i => if i < c then some (aF i 0) else none
/-- what countDisagreeing counts -/
def cntD (rr : Nat → Int32) : Nat → Nat
  | 0 => 0
  | i + 1 => if rr i = -1 then cntD rr i else cntD rr i + 1
theorem cntD_le (rr : Nat → Int32) : ∀ i, cntD rr i ≤ i
  | 0 => Nat.le_refl _
  | i + 1 => by
    have := cntD_le rr i
    unfold cntD
    split <;> omega
/-- the formulas when the first i have been asked -/
def askF (X : Nat → FC) (ee : Nat → Nat → Int32) (i : Nat) : Nat → FC := fun j => if j < i then (fun n => if n = 4 then ee j else (X j).1 n, (X j).2) else X j
theorem askF_0 (X : Nat → FC) (ee : Nat → Nat → Int32) : askF X ee 0 = X := funext fun j => if_neg (Nat.not_lt_zero j)
theorem askF_S (X : Nat → FC) (ee : Nat → Nat → Int32) (i : Nat) : setF (askF X ee i) i (fun n => if n = 4 then ee i else (X i).1 n, (X i).2) = askF X ee (i + 1) := funext fun j => by
  unfold setF askF
  by_cases h : j = i
  · rw [if_pos h, if_pos (by omega), h]
  · by_cases h2 : j < i
    · rw [if_neg h, if_pos h2, if_pos (by omega)]
    · rw [if_neg h, if_neg h2, if_neg (by omega)]
theorem askF_at (X : Nat → FC) (ee : Nat → Nat → Int32) (i : Nat) : askF X ee i i = X i := if_neg (Nat.lt_irrefl i)
abbrev rmX6_countDisagreeing : Room := { frames := 3, cells := 0, slots := 0, locals := 90 }
set_option maxHeartbeats 40000000 in
set_option maxRecDepth 100000 in
theorem met_X6_countDisagreeing (l : Launch) (D : va_G) (k : Nat → ClassId) (aU aI : Nat → Nat) (xL xS xB xV xC : Nat) (sz : Nat) (Udrawn : Nat → Int32) (Umodels : Int32) (Iestimates : Nat → Int32) (Ivariances : Nat → Int32) (Isorts : Nat → Int32) (Iwidths : Nat → Int32) (Icounts : Nat → Int32) (Ireadings : Nat → Nat → Int32) (Ifirsts : Nat → Int32) (Iseconds : Nat → Int32) (Icovariances : Nat → Nat → Int32) (c : Nat) (hc : c ≤ 8) (aF : Nat → Nat → Nat) (X : Nat → FC) (rr : Nat → Int32) (ee : Nat → Nat → Int32) (hf : ∀ i, i < c → fX3_findDisagreement ((X i).1 0) ((X i).1 1) ((X i).1 2) ((X i).1 3) ((X i).1 4) (X i).2.2.1 (X i).2.2.2 Ifirsts Iseconds = some (rr i, ee i)) : Met l yX6_countDisagreeing wsX6_countDisagreeing rmX6_countDisagreeing (va_Pc [.ref (aU 0)] (PreW D k ((wU k aU (aI 0) xL xS xB xV xC (fRow c aF) Udrawn Umodels) ++ (wI k aI Iestimates Ivariances Isorts Iwidths Icounts Ireadings Ifirsts Iseconds Icovariances) ++ FW k aF (askF X ee 0) (List.range c)) sz)) (va_Qi (fun r9 (_ : Unit) => r9 = nI (cntD rr c)) (fun _ t => PostW D k (va_A ((wU k aU (aI 0) xL xS xB xV xC (fRow c aF) Udrawn Umodels) ++ (wI k aI Iestimates Ivariances Isorts Iwidths Icounts Ireadings Ifirsts Iseconds Icovariances) ++ FW k aF (askF X ee 0) (List.range c)) sz) ((wU k aU (aI 0) xL xS xB xV xC (fRow c aF) Udrawn Umodels) ++ (wI k aI Iestimates Ivariances Isorts Iwidths Icounts Ireadings Ifirsts Iseconds Icovariances) ++ FW k aF (askF X ee c) (List.range c)) t) (va_A ((wU k aU (aI 0) xL xS xB xV xC (fRow c aF) Udrawn Umodels) ++ (wI k aI Iestimates Ivariances Isorts Iwidths Icounts Ireadings Ifirsts Iseconds Icovariances) ++ FW k aF (askF X ee 0) (List.range c)) sz)) 0 0 (va_A ((wU k aU (aI 0) xL xS xB xV xC (fRow c aF) Udrawn Umodels) ++ (wI k aI Iestimates Ivariances Isorts Iwidths Icounts Ireadings Ifirsts Iseconds Icovariances) ++ FW k aF (askF X ee 0) (List.range c)) sz) := by
  refine Met.ofW (cc := cX6_countDisagreeing) (maxL := 6) (ret := (some .int)) (by decide) rfl ?_
  intro p e s m args below meth c9 s₁ B hml hv
  obtain ⟨hav, hsz, hP, hK, hD0⟩ := hv
  have hx := B.exec
  have hb := B.bytes
  have hr := B.returns
  have hts := atoms_spec (ws := wsX6_countDisagreeing) B.pre
  have hown : s.vm.findClass RX6 = some m.cls := findClass_of_methodNamed B.named
  have hlocks := B.notSynchronized
  subst hsz
  have hD := hD0.self (sz := s.heap.size)
  clear hD0
  obtain ⟨A, hAe⟩ : ∃ A, va_A ((wU k aU (aI 0) xL xS xB xV xC (fRow c aF) Udrawn Umodels) ++ (wI k aI Iestimates Ivariances Isorts Iwidths Icounts Ireadings Ifirsts Iseconds Icovariances) ++ FW k aF (askF X ee 0) (List.range c)) s.heap.size = A := ⟨_, rfl⟩
  rw [hAe] at hD ⊢
  have hA : ∀ q : Nat, s.heap.size ≤ q → A q := fun q h => by rw [← hAe]; exact Or.inr h
  have hS : va_S A s.heap s.heap [] := va_S.rf
  have hl := lv_entry ([.ref (aU 0)]) (n := 6) (Nat.le_of_ble_eq_true rfl)
  rw [show entryFrame m args 6 = entryFrame m ([.ref (aU 0)] : List Value).toArray 6 from by rw [hav], lg_entry_eq]
  generalize (lg_sl ([.ref (aU 0)]) ++ List.replicate (6 - (lg_sl ([.ref (aU 0)])).length) Slot.unset).toArray = ls at hl ⊢
  replace hl : lv_has ls 6 [(0, .ref (aU 0))] := hl
  have iX6 : ∀ w ∈ u_ws RX6 TX6 9, w ∈ wsX6_countDisagreeing := by decide +kernel
  have iX4 : ∀ w ∈ u_ws RX4 TX4 9, w ∈ wsX6_countDisagreeing := by decide +kernel
  have f10 := hts (.fieldLink RX6 10 "UncertainBook" "inputs" "LUncertainBook$Inputs;") (by decide +kernel)
  have f25 := hts (.fieldLink RX6 25 "UncertainBook" "formulas" "[LUncertainBook$Formula;") (by decide +kernel)
  have f89 := hts (.fieldLink RX6 89 "UncertainBook$Inputs" "firsts" "[I") (by decide +kernel)
  have f92 := hts (.fieldLink RX6 92 "UncertainBook$Inputs" "seconds" "[I") (by decide +kernel)
  have wf := cntD_le rr
  show W p l e rmX6_countDisagreeing s m args below meth c9 s.heap [] 0 0 _ (F0 m 0 ls [])
  -- the loop
  have loop : ∀ (n i : Nat), i + n = 8 → ∀ (H : Heap) (locs : List Loc) (ls : Array Slot), va_P D vwCl ((wU k aU (aI 0) xL xS xB xV xC (fRow c aF) Udrawn Umodels) ++ (wI k aI Iestimates Ivariances Isorts Iwidths Icounts Ireadings Ifirsts Iseconds Icovariances) ++ FW k aF (askF X ee (min i c)) (List.range c)) H → va_D A ((wU k aU (aI 0) xL xS xB xV xC (fRow c aF) Udrawn Umodels) ++ (wI k aI Iestimates Ivariances Isorts Iwidths Icounts Ireadings Ifirsts Iseconds Icovariances) ++ FW k aF (askF X ee (min i c)) (List.range c)) → va_S A s.heap H locs → lv_has ls 6 [(4, .int (nI i)), (3, .int 8), (2, .ref (aU 1)), (1, .int (nI (cntD rr (min i c)))), (0, .ref (aU 0))] →
      W p l e rmX6_countDisagreeing s m args below meth c9 H locs 0 0 (MQ below (va_Qi (fun r9 (_ : Unit) => r9 = nI (cntD rr c)) (fun _ t => PostW D k A ((wU k aU (aI 0) xL xS xB xV xC (fRow c aF) Udrawn Umodels) ++ (wI k aI Iestimates Ivariances Isorts Iwidths Icounts Ireadings Ifirsts Iseconds Icovariances) ++ FW k aF (askF X ee c) (List.range c)) t) A) args s 0 0 A) (F0 m 13 ls []) := by
    intro n
    induction n with
    | zero =>
      intro i hi H locs ls hP hD hS hl
      have : i = 8 := by omega
      subst this
      rw [show min 8 c = c by omega] at hP hD hl
      refine lv_iload hx hb dX6_countDisagreeing_13 (lv_at hl 0 rfl) ?_
      refine lv_iload_n hx hb dX6_countDisagreeing_15 rfl (lv_at hl 1 rfl) ?_
      refine lv_icmp_ge (tgt := 62) hx hb dX6_countDisagreeing_16 (by decide) (fun _ => ?_) (fun q => absurd (by decide) q)
      refine lv_iload_n hx hb dX6_countDisagreeing_62 rfl (lv_at hl 3 rfl) ?_
      exact W.iret hx hb hr (fun t ht hW => ⟨⟨_, (), rfl, rfl, by rw [ht]; exact hP, va_K.moved hW.alike hK, hD⟩, hS.F ht⟩) hS.2.2 dX6_countDisagreeing_63
    | succ n ih =>
      intro i hi H locs ls hP hD hS hl
      have next : ∀ (H : Heap) (locs : List Loc) (ls : Array Slot), va_P D vwCl ((wU k aU (aI 0) xL xS xB xV xC (fRow c aF) Udrawn Umodels) ++ (wI k aI Iestimates Ivariances Isorts Iwidths Icounts Ireadings Ifirsts Iseconds Icovariances) ++ FW k aF (askF X ee (min (i + 1) c)) (List.range c)) H → va_D A ((wU k aU (aI 0) xL xS xB xV xC (fRow c aF) Udrawn Umodels) ++ (wI k aI Iestimates Ivariances Isorts Iwidths Icounts Ireadings Ifirsts Iseconds Icovariances) ++ FW k aF (askF X ee (min (i + 1) c)) (List.range c)) → va_S A s.heap H locs → lv_has ls 6 [(4, .int (nI i)), (3, .int 8), (2, .ref (aU 1)), (1, .int (nI (cntD rr (min (i + 1) c)))), (0, .ref (aU 0))] →
          W p l e rmX6_countDisagreeing s m args below meth c9 H locs 0 0 (MQ below (va_Qi (fun r9 (_ : Unit) => r9 = nI (cntD rr c)) (fun _ t => PostW D k A ((wU k aU (aI 0) xL xS xB xV xC (fRow c aF) Udrawn Umodels) ++ (wI k aI Iestimates Ivariances Isorts Iwidths Icounts Ireadings Ifirsts Iseconds Icovariances) ++ FW k aF (askF X ee c) (List.range c)) t) A) args s 0 0 A) (F0 m 56 ls []) := by
        intro H locs ls hP hD hS hl
        refine lv_iinc (v := nI i + 1) (lv' := [(4, .int (nI i + 1)), (3, .int 8), (2, .ref (aU 1)), (1, .int (nI (cntD rr (min (i + 1) c)))), (0, .ref (aU 0))]) hx hb dX6_countDisagreeing_56 hl (k := 0) rfl rfl (by decide) rfl (fun ls hl => ?_)
        refine lv_goto (tgt := 13) hx hb dX6_countDisagreeing_59 (by decide) ?_
        rw [nI_1] at hl
        exact ih (i + 1) (by omega) H locs ls hP hD hS hl
      refine lv_iload hx hb dX6_countDisagreeing_13 (lv_at hl 0 rfl) ?_
      refine lv_iload_n hx hb dX6_countDisagreeing_15 rfl (lv_at hl 1 rfl) ?_
      refine lv_icmp_ge (tgt := 62) hx hb dX6_countDisagreeing_16 (by decide) (fun q => absurd ((nI_leI (a := 8) (by omega) (by omega)).mp q) (by omega)) (fun _ => ?_)
      refine lv_aload_n hx hb dX6_countDisagreeing_19 rfl (lv_at hl 2 rfl) ?_
      refine lv_iload hx hb dX6_countDisagreeing_20 (lv_at hl 0 rfl) ?_
      refine va_aldq hx hb hK hP 1 3 rfl rfl (vp_in_nI (show i < 8 by omega) (by omega)) dX6_countDisagreeing_22 ?_
      rw [nI_clamp (show i < 2 ^ 31 by omega)]
      by_cases hic : i < c
      · have e1 : va_rf (fRow c aF i) = .ref (aF i 0) := by
          show va_rf (if i < c then some (aF i 0) else none) = _
          rw [if_pos hic]
          rfl
        rw [e1]
        have emin : min i c = i := by omega
        have emin1 : min (i + 1) c = i + 1 := by omega
        rw [emin] at hP hD hl
        rw [emin1] at next
        refine lv_astore (lv' := [(5, .ref (aF i 0)), (4, .int (nI i)), (3, .int 8), (2, .ref (aU 1)), (1, .int (nI (cntD rr i))), (0, .ref (aU 0))]) hx hb dX6_countDisagreeing_23 hl (by decide) rfl (fun ls hl => ?_)
        refine lv_aload hx hb dX6_countDisagreeing_25 (lv_at hl 0 rfl) ?_
        refine lv_ifnull hx hb dX6_countDisagreeing_27 ?_
        refine lv_aload hx hb dX6_countDisagreeing_30 (lv_at hl 0 rfl) ?_
        refine lv_aload_n hx hb dX6_countDisagreeing_32 rfl (lv_at hl 5 rfl) ?_
        refine va_get (D := D) (ci := 6) (v := .ref (aI 0)) (C := RX6) (T := TX6) (N := 9) hx hb hts iX6 hown hK hP 0 rfl rfl 0 (by decide) f10 (fun _ h9 => h9) rfl dX6_countDisagreeing_33 ?_
        refine va_get (D := D) (ci := 4) (v := .ref (aI 13)) (C := RX4) (T := TX4) (N := 9) hx hb hts iX4 hown hK hP 3 rfl rfl 6 (by decide) f89 (fun _ h9 => h9) rfl dX6_countDisagreeing_36 ?_
        refine lv_aload_n hx hb dX6_countDisagreeing_39 rfl (lv_at hl 5 rfl) ?_
        refine va_get (D := D) (ci := 6) (v := .ref (aI 0)) (C := RX6) (T := TX6) (N := 9) hx hb hts iX6 hown hK hP 0 rfl rfl 0 (by decide) f10 (fun _ h9 => h9) rfl dX6_countDisagreeing_40 ?_
        refine va_get (D := D) (ci := 4) (v := .ref (aI 14)) (C := RX4) (T := TX4) (N := 9) hx hb hts iX4 hown hK hP 3 rfl rfl 7 (by decide) f92 (fun _ h9 => h9) rfl dX6_countDisagreeing_43 ?_
        -- the formula and the two rows of exponents are cut out
        have perm : ∀ (Z : FC), (((wFc k (aF i) Z) ++ ([(aI 13, .inl (k 0, 6, .inl Ifirsts))] : va_W) ++ ([(aI 14, .inl (k 0, 6, .inl Iseconds))] : va_W)) ++ ((wU k aU (aI 0) xL xS xB xV xC (fRow c aF) Udrawn Umodels) ++ ((wI k aI Iestimates Ivariances Isorts Iwidths Icounts Ireadings Ifirsts Iseconds Icovariances).take 13 ++ (wI k aI Iestimates Ivariances Isorts Iwidths Icounts Ireadings Ifirsts Iseconds Icovariances).drop 15) ++ FW k aF (askF X ee i) (others c i))).Perm ((wU k aU (aI 0) xL xS xB xV xC (fRow c aF) Udrawn Umodels) ++ (wI k aI Iestimates Ivariances Isorts Iwidths Icounts Ireadings Ifirsts Iseconds Icovariances) ++ ((wFc k (aF i) Z) ++ FW k aF (askF X ee i) (others c i))) := fun Z => pmc (fun a => by
          have e : ((wI k aI Iestimates Ivariances Isorts Iwidths Icounts Ireadings Ifirsts Iseconds Icovariances) : va_W) = (wI k aI Iestimates Ivariances Isorts Iwidths Icounts Ireadings Ifirsts Iseconds Icovariances).take 13 ++ (([(aI 13, .inl (k 0, 6, .inl Ifirsts))] : va_W) ++ (([(aI 14, .inl (k 0, 6, .inl Iseconds))] : va_W) ++ (wI k aI Iestimates Ivariances Isorts Iwidths Icounts Ireadings Ifirsts Iseconds Icovariances).drop 15)) := rfl
          have e2 := congrArg (List.count a) e
          simp only [List.count_append] at e2 ⊢
          omega)
        have pick : ((wU k aU (aI 0) xL xS xB xV xC (fRow c aF) Udrawn Umodels) ++ (wI k aI Iestimates Ivariances Isorts Iwidths Icounts Ireadings Ifirsts Iseconds Icovariances) ++ (wFc k (aF i) (askF X ee i i) ++ FW k aF (askF X ee i) (others c i))).Perm ((wU k aU (aI 0) xL xS xB xV xC (fRow c aF) Udrawn Umodels) ++ (wI k aI Iestimates Ivariances Isorts Iwidths Icounts Ireadings Ifirsts Iseconds Icovariances) ++ FW k aF (askF X ee i) (List.range c)) := List.Perm.append_left _ (FW_pick hic).symm
        have hP2 := vs_perm hP ((perm (askF X ee i i)).trans pick)
        have hD2 := vd_perm hD ((perm (askF X ee i i)).trans pick)
        rw [askF_at] at hP2 hD2
        have hPc := vs_l hP2
        have hDc := vd_l hD2
        have hFc := vs_free hDc hS hA
        refine xc_i (va_runV (As := [.ref (aI 13), .ref (aI 14)]) (rest := []) ⟨hx, hb, hml, hown, hts⟩ (met_X3_findDisagreement l D k (aF i) (aI 13) (aI 14) H.size ((X i).1 0) ((X i).1 1) ((X i).1 2) ((X i).1 3) ((X i).2.1 0) ((X i).2.1 1) ((X i).1 4) (X i).2.2.1 (X i).2.2.2 Ifirsts Iseconds (rr i) (ee i) (hf i hic)) (cwV 2 hts gX6_countDisagreeing_X3_findDisagreement rfl rfl rfl (by decide +kernel) ⟨Nat.le_of_ble_eq_true rfl, Nat.le_of_ble_eq_true rfl⟩) ⟨pw_blind, va_recv hK hPc (ci := 3) (q0 := 0) rfl rfl, pw_start hPc hK hDc⟩ rfl rfl hl.1 rfl (lv_room (Nat.le_of_ble_eq_true rfl)) dX6_countDisagreeing_46 ⟨Nat.zero_le _, Nat.zero_le _⟩) hS hFc (fun H1 locs hP1 hD1 hk1 hS => ?_)
        obtain ⟨hP3, hD3⟩ := vs_joinL hP2 hD2 hFc hk1 hP1 hD1
        have put : (((wU k aU (aI 0) xL xS xB xV xC (fRow c aF) Udrawn Umodels) ++ (wI k aI Iestimates Ivariances Isorts Iwidths Icounts Ireadings Ifirsts Iseconds Icovariances) ++ (wFc k (aF i) (fun n => if n = 4 then ee i else (X i).1 n, (X i).2) ++ FW k aF (askF X ee i) (others c i)))).Perm ((wU k aU (aI 0) xL xS xB xV xC (fRow c aF) Udrawn Umodels) ++ (wI k aI Iestimates Ivariances Isorts Iwidths Icounts Ireadings Ifirsts Iseconds Icovariances) ++ FW k aF (askF X ee (i + 1)) (List.range c)) := by
          have := FW_put (k := k) (aF := aF) (X := askF X ee i) (Y := (fun n => if n = 4 then ee i else (X i).1 n, (X i).2)) hic
          rw [askF_S] at this
          exact List.Perm.append_left _ this
        have hP4 := vs_perm hP3 ((perm (fun n => if n = 4 then ee i else (X i).1 n, (X i).2)).trans put).symm
        have hD4 := vd_perm hD3 ((perm (fun n => if n = 4 then ee i else (X i).1 n, (X i).2)).trans put).symm
        refine lv_iconst (v := -1) hx hb dX6_countDisagreeing_49 (by decide) ?_
        refine lv_icmp_eq (tgt := 56) hx hb dX6_countDisagreeing_50 (by decide) (fun q => ?_) (fun q => ?_)
        · have ec : cntD rr (i + 1) = cntD rr i := if_pos q
          rw [ec] at next
          exact next _ _ _ hP4 hD4 hS (lv_sub hl [1, 2, 3, 4, 5] rfl)
        · have ec : cntD rr (i + 1) = cntD rr i + 1 := if_neg q
          rw [ec] at next
          refine lv_iinc (v := nI (cntD rr i) + 1) (lv' := [(1, .int (nI (cntD rr i) + 1)), (5, .ref (aF i 0)), (4, .int (nI i)), (3, .int 8), (2, .ref (aU 1)), (0, .ref (aU 0))]) hx hb dX6_countDisagreeing_53 hl (k := 4) rfl rfl (by decide) rfl (fun ls hl => ?_)
          rw [nI_1] at hl
          exact next _ _ _ hP4 hD4 hS (lv_sub hl [2, 3, 4, 0, 5] rfl)
      · have e1 : va_rf (fRow c aF i) = .null := by
          show va_rf (if i < c then some (aF i 0) else none) = _
          rw [if_neg hic]
          rfl
        rw [e1]
        have emin : min i c = c := by omega
        have emin1 : min (i + 1) c = c := by omega
        rw [emin] at hP hD hl
        rw [emin1] at next
        refine lv_astoreN (lv' := [(5, .null), (4, .int (nI i)), (3, .int 8), (2, .ref (aU 1)), (1, .int (nI (cntD rr c))), (0, .ref (aU 0))]) hx hb dX6_countDisagreeing_23 hl (by decide) rfl (fun ls hl => ?_)
        refine lv_aloadN hx hb dX6_countDisagreeing_25 (lv_at hl 0 rfl) ?_
        refine lv_ifnullN (tgt := 56) hx hb dX6_countDisagreeing_27 (by decide) ?_
        exact next _ _ _ hP hD hS (lv_sub hl [1, 2, 3, 4, 5] rfl)
  refine lv_iconst (v := 0) hx hb dX6_countDisagreeing_0 (by decide) ?_
  refine lv_istore_n (lv' := [(1, .int 0), (0, .ref (aU 0))]) hx hb dX6_countDisagreeing_1 rfl hl (by decide) rfl (fun ls hl => ?_)
  refine lv_aload_n hx hb dX6_countDisagreeing_2 rfl (lv_at hl 1 rfl) ?_
  refine va_get (D := D) (ci := 6) (v := .ref (aU 1)) (C := RX6) (T := TX6) (N := 9) hx hb hts iX6 hown hK hP 0 rfl rfl 2 (by decide) f25 (fun _ h9 => h9) rfl dX6_countDisagreeing_3 ?_
  refine lv_astore_n (lv' := [(2, .ref (aU 1)), (1, .int 0), (0, .ref (aU 0))]) hx hb dX6_countDisagreeing_6 rfl hl (by decide) rfl (fun ls hl => ?_)
  refine lv_aload_n hx hb dX6_countDisagreeing_7 rfl (lv_at hl 0 rfl) ?_
  refine va_alen (v := 8) hx hb hK hP 1 3 rfl rfl rfl dX6_countDisagreeing_8 ?_
  refine lv_istore_n (lv' := [(3, .int 8), (2, .ref (aU 1)), (1, .int 0), (0, .ref (aU 0))]) hx hb dX6_countDisagreeing_9 rfl hl (by decide) rfl (fun ls hl => ?_)
  refine lv_iconst (v := 0) hx hb dX6_countDisagreeing_10 (by decide) ?_
  refine lv_istore (lv' := [(4, .int 0), (3, .int 8), (2, .ref (aU 1)), (1, .int 0), (0, .ref (aU 0))]) hx hb dX6_countDisagreeing_11 hl (by decide) rfl (fun ls hl => ?_)
  have e0 : min 0 c = 0 := by omega
  exact loop 8 0 rfl _ _ _ (by rw [e0]; exact hP) (by rw [e0]; exact hD) hS (by rw [e0]; exact hl)
set_option maxHeartbeats 40000000 in
set_option maxRecDepth 100000 in
theorem met_X6_unit (l : Launch) (D : va_G) (k : Nat → ClassId) (aU aI : Nat → Nat) (xL xS xB xV xC : Nat) (sz : Nat) (Uformulas : Nat → Option Nat) (Udrawn : Nat → Int32) (Umodels : Int32) (Iestimates : Nat → Int32) (Ivariances : Nat → Int32) (Isorts : Nat → Int32) (Iwidths : Nat → Int32) (Icounts : Nat → Int32) (Ireadings : Nat → Nat → Int32) (Ifirsts : Nat → Int32) (Iseconds : Nat → Int32) (Icovariances : Nat → Nat → Int32) (pl pl' : va_W) (v1 v2 v3 : Int32) (h1 : fX6_checkInput v1 = some ()) (h2 : fX6_checkRange v2 (-3) 3 = some ()) (h3 : fX6_checkRange v3 (-3) 3 = some ()) (hi : vp_in v1 6) (r : Int32) (hC : ∀ sz : Nat, Met l yX6_countDisagreeing wsX6_countDisagreeing rmX6_countDisagreeing (va_Pc [.ref (aU 0)] (PreW D k ((wU k aU (aI 0) xL xS xB xV xC Uformulas Udrawn Umodels) ++ (wI k aI Iestimates Ivariances Isorts Iwidths Icounts Ireadings (upd Ifirsts (v1.toNatClampNeg) v2) (upd Iseconds (v1.toNatClampNeg) v3) Icovariances) ++ pl) sz)) (va_Qi (fun r9 (_ : Unit) => r9 = r) (fun _ t => PostW D k (va_A ((wU k aU (aI 0) xL xS xB xV xC Uformulas Udrawn Umodels) ++ (wI k aI Iestimates Ivariances Isorts Iwidths Icounts Ireadings (upd Ifirsts (v1.toNatClampNeg) v2) (upd Iseconds (v1.toNatClampNeg) v3) Icovariances) ++ pl) sz) ((wU k aU (aI 0) xL xS xB xV xC Uformulas Udrawn Umodels) ++ (wI k aI Iestimates Ivariances Isorts Iwidths Icounts Ireadings (upd Ifirsts (v1.toNatClampNeg) v2) (upd Iseconds (v1.toNatClampNeg) v3) Icovariances) ++ pl') t) (va_A ((wU k aU (aI 0) xL xS xB xV xC Uformulas Udrawn Umodels) ++ (wI k aI Iestimates Ivariances Isorts Iwidths Icounts Ireadings (upd Ifirsts (v1.toNatClampNeg) v2) (upd Iseconds (v1.toNatClampNeg) v3) Icovariances) ++ pl) sz)) 0 0 (va_A ((wU k aU (aI 0) xL xS xB xV xC Uformulas Udrawn Umodels) ++ (wI k aI Iestimates Ivariances Isorts Iwidths Icounts Ireadings (upd Ifirsts (v1.toNatClampNeg) v2) (upd Iseconds (v1.toNatClampNeg) v3) Icovariances) ++ pl) sz)) : Met l yX6_unit wsX6_unit rmX6_unit (va_Pc [.ref (aU 0), .int v1, .int v2, .int v3] (PreW D k ((wU k aU (aI 0) xL xS xB xV xC Uformulas Udrawn Umodels) ++ (wI k aI Iestimates Ivariances Isorts Iwidths Icounts Ireadings Ifirsts Iseconds Icovariances) ++ pl) sz)) (va_Qi (fun r9 (_ : Unit) => r9 = r) (fun _ t => PostW D k (va_A ((wU k aU (aI 0) xL xS xB xV xC Uformulas Udrawn Umodels) ++ (wI k aI Iestimates Ivariances Isorts Iwidths Icounts Ireadings Ifirsts Iseconds Icovariances) ++ pl) sz) ((wU k aU (aI 0) xL xS xB xV xC Uformulas Udrawn Umodels) ++ (wI k aI Iestimates Ivariances Isorts Iwidths Icounts Ireadings (upd Ifirsts (v1.toNatClampNeg) v2) (upd Iseconds (v1.toNatClampNeg) v3) Icovariances) ++ pl') t) (va_A ((wU k aU (aI 0) xL xS xB xV xC Uformulas Udrawn Umodels) ++ (wI k aI Iestimates Ivariances Isorts Iwidths Icounts Ireadings Ifirsts Iseconds Icovariances) ++ pl) sz)) 0 0 (va_A ((wU k aU (aI 0) xL xS xB xV xC Uformulas Udrawn Umodels) ++ (wI k aI Iestimates Ivariances Isorts Iwidths Icounts Ireadings Ifirsts Iseconds Icovariances) ++ pl) sz) := by
  refine Met.ofW (cc := cX6_unit) (maxL := 4) (ret := (some .int)) (by decide) rfl ?_
  intro p e s m args below meth c9 s₁ B hml hv
  obtain ⟨hav, hsz, hP, hK, hD0⟩ := hv
  have hx := B.exec
  have hb := B.bytes
  have hr := B.returns
  have hts := atoms_spec (ws := wsX6_unit) B.pre
  have hown : s.vm.findClass RX6 = some m.cls := findClass_of_methodNamed B.named
  have hlocks := B.notSynchronized
  subst hsz
  have hD := hD0.self (sz := s.heap.size)
  clear hD0
  obtain ⟨A, hAe⟩ : ∃ A, va_A ((wU k aU (aI 0) xL xS xB xV xC Uformulas Udrawn Umodels) ++ (wI k aI Iestimates Ivariances Isorts Iwidths Icounts Ireadings Ifirsts Iseconds Icovariances) ++ pl) s.heap.size = A := ⟨_, rfl⟩
  rw [hAe] at hD ⊢
  have hA : ∀ q : Nat, s.heap.size ≤ q → A q := fun q h => by rw [← hAe]; exact Or.inr h
  have hS : va_S A s.heap s.heap [] := va_S.rf
  have hl := lv_entry ([.ref (aU 0), .int v1, .int v2, .int v3]) (n := 4) (Nat.le_of_ble_eq_true rfl)
  rw [show entryFrame m args 4 = entryFrame m ([.ref (aU 0), .int v1, .int v2, .int v3] : List Value).toArray 4 from by rw [hav], lg_entry_eq]
  generalize (lg_sl ([.ref (aU 0), .int v1, .int v2, .int v3]) ++ List.replicate (4 - (lg_sl ([.ref (aU 0), .int v1, .int v2, .int v3])).length) Slot.unset).toArray = ls at hl ⊢
  replace hl : lv_has ls 4 [(0, .ref (aU 0)), (1, .int v1), (2, .int v2), (3, .int v3)] := hl
  have iX6 : ∀ w ∈ u_ws RX6 TX6 9, w ∈ wsX6_unit := by decide +kernel
  have iX4 : ∀ w ∈ u_ws RX4 TX4 9, w ∈ wsX6_unit := by decide +kernel
  have f10 := hts (.fieldLink RX6 10 "UncertainBook" "inputs" "LUncertainBook$Inputs;") (by decide +kernel)
  have f89 := hts (.fieldLink RX6 89 "UncertainBook$Inputs" "firsts" "[I") (by decide +kernel)
  have f92 := hts (.fieldLink RX6 92 "UncertainBook$Inputs" "seconds" "[I") (by decide +kernel)
  show W p l e rmX6_unit s m args below meth c9 s.heap [] 0 0 _ (F0 m 0 ls [])
  suffices main : ∀ (H : Heap) (locs : List Loc) (ls : Array Slot), va_P D vwCl ((wU k aU (aI 0) xL xS xB xV xC Uformulas Udrawn Umodels) ++ (wI k aI Iestimates Ivariances Isorts Iwidths Icounts Ireadings Ifirsts Iseconds Icovariances) ++ pl) H → va_D A ((wU k aU (aI 0) xL xS xB xV xC Uformulas Udrawn Umodels) ++ (wI k aI Iestimates Ivariances Isorts Iwidths Icounts Ireadings Ifirsts Iseconds Icovariances) ++ pl) → va_S A s.heap H locs → lv_has ls 4 [(0, .ref (aU 0)), (1, .int v1), (2, .int v2), (3, .int v3)] → W p l e rmX6_unit s m args below meth c9 H locs 0 0 _ (F0 m 0 ls []) from main _ _ _ hP hD hS hl
  clear hP hD hS hl ls
  intro H locs ls hP hD hS hl
  refine lv_iload_n hx hb dX6_unit_0 rfl (lv_at hl 1 rfl) ?_
  have hPc := hP.sub (ws' := ([] : va_W)) [] rfl
  have hDc := hD.sub (ws' := ([] : va_W)) [] rfl rfl
  have hFc := va_free (wc := ([] : va_W)) hD hS hA [] rfl
  refine xc_v (va_runS (As := [.int v1]) (rest := []) ⟨hx, hb, hml, hown, hts⟩ (met_X6_checkInput l D k H.size v1 h1) (va_cwS 1 hts gX6_unit_X6_checkInput rfl rfl rfl (by decide +kernel) ⟨Nat.le_of_ble_eq_true rfl, Nat.le_of_ble_eq_true rfl⟩) ⟨pw_blind, pw_start hPc hK hDc⟩ rfl rfl hl.1 rfl (lv_room (Nat.le_of_ble_eq_true rfl)) dX6_unit_1 ⟨Nat.zero_le _, Nat.zero_le _⟩) hS hFc (fun H1 locs hP1 hD1 hk1 hS => ?_)
  obtain ⟨hP, hD⟩ := vk hP hD [] rfl hk1 hP1
  clear hP1 hD1 hk1 hFc
  generalize H1 = H at hP hS ⊢
  refine lv_iload_n hx hb dX6_unit_4 rfl (lv_at hl 2 rfl) ?_
  refine lv_bipush (v := -3) hx hb dX6_unit_5 (by decide) ?_
  refine lv_iconst (v := 3) hx hb dX6_unit_7 (by decide) ?_
  have hPc := hP.sub (ws' := ([] : va_W)) [] rfl
  have hDc := hD.sub (ws' := ([] : va_W)) [] rfl rfl
  have hFc := va_free (wc := ([] : va_W)) hD hS hA [] rfl
  refine xc_v (va_runS (As := [.int v2, .int ((-3)), .int 3]) (rest := []) ⟨hx, hb, hml, hown, hts⟩ (met_X6_checkRange l D k H.size v2 ((-3)) 3 h2) (va_cwS 3 hts gX6_unit_X6_checkRange rfl rfl rfl (by decide +kernel) ⟨Nat.le_of_ble_eq_true rfl, Nat.le_of_ble_eq_true rfl⟩) ⟨pw_blind, pw_start hPc hK hDc⟩ rfl rfl hl.1 rfl (lv_room (Nat.le_of_ble_eq_true rfl)) dX6_unit_8 ⟨Nat.zero_le _, Nat.zero_le _⟩) hS hFc (fun H1 locs hP1 hD1 hk1 hS => ?_)
  obtain ⟨hP, hD⟩ := vk hP hD [] rfl hk1 hP1
  clear hP1 hD1 hk1 hFc
  generalize H1 = H at hP hS ⊢
  refine lv_iload_n hx hb dX6_unit_11 rfl (lv_at hl 3 rfl) ?_
  refine lv_bipush (v := -3) hx hb dX6_unit_12 (by decide) ?_
  refine lv_iconst (v := 3) hx hb dX6_unit_14 (by decide) ?_
  have hPc := hP.sub (ws' := ([] : va_W)) [] rfl
  have hDc := hD.sub (ws' := ([] : va_W)) [] rfl rfl
  have hFc := va_free (wc := ([] : va_W)) hD hS hA [] rfl
  refine xc_v (va_runS (As := [.int v3, .int ((-3)), .int 3]) (rest := []) ⟨hx, hb, hml, hown, hts⟩ (met_X6_checkRange l D k H.size v3 ((-3)) 3 h3) (va_cwS 3 hts gX6_unit_X6_checkRange rfl rfl rfl (by decide +kernel) ⟨Nat.le_of_ble_eq_true rfl, Nat.le_of_ble_eq_true rfl⟩) ⟨pw_blind, pw_start hPc hK hDc⟩ rfl rfl hl.1 rfl (lv_room (Nat.le_of_ble_eq_true rfl)) dX6_unit_15 ⟨Nat.zero_le _, Nat.zero_le _⟩) hS hFc (fun H1 locs hP1 hD1 hk1 hS => ?_)
  obtain ⟨hP, hD⟩ := vk hP hD [] rfl hk1 hP1
  clear hP1 hD1 hk1 hFc
  generalize H1 = H at hP hS ⊢
  refine lv_aload_n hx hb dX6_unit_18 rfl (lv_at hl 0 rfl) ?_
  refine va_get (D := D) (ci := 6) (v := .ref (aI 0)) (C := RX6) (T := TX6) (N := 9) hx hb hts iX6 hown hK hP 0 rfl rfl 0 (by decide) f10 (fun _ h9 => h9) rfl dX6_unit_19 ?_
  refine va_get (D := D) (ci := 4) (v := .ref (aI 13)) (C := RX4) (T := TX4) (N := 9) hx hb hts iX4 hown hK hP 3 rfl rfl 6 (by decide) f89 (fun _ h9 => h9) rfl dX6_unit_22 ?_
  refine lv_iload_n hx hb dX6_unit_25 rfl (lv_at hl 1 rfl) ?_
  refine lv_iload_n hx hb dX6_unit_26 rfl (lv_at hl 2 rfl) ?_
  refine va_iast hx hb hK hP hD hS 16 0 rfl rfl hi dX6_unit_27 (fun H locs hP hD hS => ?_)
  replace hP : va_P D vwCl ((wU k aU (aI 0) xL xS xB xV xC Uformulas Udrawn Umodels) ++ (wI k aI Iestimates Ivariances Isorts Iwidths Icounts Ireadings (upd Ifirsts (v1.toNatClampNeg) v2) Iseconds Icovariances) ++ pl) H := hP
  replace hD : va_D A ((wU k aU (aI 0) xL xS xB xV xC Uformulas Udrawn Umodels) ++ (wI k aI Iestimates Ivariances Isorts Iwidths Icounts Ireadings (upd Ifirsts (v1.toNatClampNeg) v2) Iseconds Icovariances) ++ pl) := hD
  refine lv_aload_n hx hb dX6_unit_28 rfl (lv_at hl 0 rfl) ?_
  refine va_get (D := D) (ci := 6) (v := .ref (aI 0)) (C := RX6) (T := TX6) (N := 9) hx hb hts iX6 hown hK hP 0 rfl rfl 0 (by decide) f10 (fun _ h9 => h9) rfl dX6_unit_29 ?_
  refine va_get (D := D) (ci := 4) (v := .ref (aI 14)) (C := RX4) (T := TX4) (N := 9) hx hb hts iX4 hown hK hP 3 rfl rfl 7 (by decide) f92 (fun _ h9 => h9) rfl dX6_unit_32 ?_
  refine lv_iload_n hx hb dX6_unit_35 rfl (lv_at hl 1 rfl) ?_
  refine lv_iload_n hx hb dX6_unit_36 rfl (lv_at hl 3 rfl) ?_
  refine va_iast hx hb hK hP hD hS 17 0 rfl rfl hi dX6_unit_37 (fun H locs hP hD hS => ?_)
  replace hP : va_P D vwCl ((wU k aU (aI 0) xL xS xB xV xC Uformulas Udrawn Umodels) ++ (wI k aI Iestimates Ivariances Isorts Iwidths Icounts Ireadings (upd Ifirsts (v1.toNatClampNeg) v2) (upd Iseconds (v1.toNatClampNeg) v3) Icovariances) ++ pl) H := hP
  replace hD : va_D A ((wU k aU (aI 0) xL xS xB xV xC Uformulas Udrawn Umodels) ++ (wI k aI Iestimates Ivariances Isorts Iwidths Icounts Ireadings (upd Ifirsts (v1.toNatClampNeg) v2) (upd Iseconds (v1.toNatClampNeg) v3) Icovariances) ++ pl) := hD
  refine lv_aload_n hx hb dX6_unit_38 rfl (lv_at hl 0 rfl) ?_
  have hFc := vs_free hD hS hA
  refine xc_i (va_runV (As := []) (rest := []) ⟨hx, hb, hml, hown, hts⟩ (hC H.size) (cwV 0 hts gX6_unit_X6_countDisagreeing rfl rfl rfl (by decide +kernel) ⟨Nat.le_of_ble_eq_true rfl, Nat.le_of_ble_eq_true rfl⟩) ⟨pw_blind, va_recv hK hP (ci := 6) (q0 := 0) rfl rfl, pw_start hP hK hD⟩ rfl rfl hl.1 rfl (lv_room (Nat.le_of_ble_eq_true rfl)) dX6_unit_39 ⟨Nat.zero_le _, Nat.zero_le _⟩) hS hFc (fun H1 locs hP1 hD1 hk1 hS => ?_)
  obtain ⟨hP, hD⟩ := vj_all hFc hP1 hD1
  exact W.iret hx hb hr (fun t ht hW => ⟨⟨_, (), rfl, rfl, by rw [ht]; exact hP, va_K.moved hW.alike hK, hD⟩, hS.F ht⟩) hS.2.2 dX6_unit_42
