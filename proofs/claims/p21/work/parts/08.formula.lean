def fX3_clear (Fsize : Int32) (Froot : Int32) : Option (Int32 × Int32) := some (0, 0)
abbrev rmX3_clear : Room := { frames := 0, cells := 0, slots := 0, locals := 0 }
set_option maxHeartbeats 4000000 in
set_option maxRecDepth 100000 in
theorem met_X3_clear (l : Launch) (D : va_G) (k : Nat → ClassId)  (aF : Nat → Nat) (sz : Nat) (Fkinds : Nat → Int32) (Flefts : Nat → Int32) (Frights : Nat → Int32) (Fplaces : Nat → Int32) (Fvalues : Nat → Int64) (Fslopes : Nat → Int64) (Fexponents : Nat → Int32) (Fsize : Int32) (Froot : Int32)  (RFsize : Int32) (RFroot : Int32) (h : fX3_clear Fsize Froot = some (RFsize, RFroot)) : Met l yX3_clear wsX3_clear rmX3_clear (va_Pc [.ref (aF 0)] (PreW D k (wF k aF Fkinds Flefts Frights Fplaces Fvalues Fslopes Fexponents Fsize Froot) sz)) (va_Qv (fun _ : Unit => True) (fun _ t => PostW D k (va_A (wF k aF Fkinds Flefts Frights Fplaces Fvalues Fslopes Fexponents Fsize Froot) sz) (wF k aF Fkinds Flefts Frights Fplaces Fvalues Fslopes Fexponents RFsize RFroot) t) (va_A (wF k aF Fkinds Flefts Frights Fplaces Fvalues Fslopes Fexponents Fsize Froot) sz)) 0 0 (va_A (wF k aF Fkinds Flefts Frights Fplaces Fvalues Fslopes Fexponents Fsize Froot) sz) := by
  refine Met.ofW (cc := cX3_clear) (maxL := 1) (ret := none) (by decide) rfl ?_
  intro p e s m args below meth c s₁ B hml hv
  obtain ⟨hav, hsz, hP, hK, hD0⟩ := hv
  have hx := B.exec
  have hb := B.bytes
  have hr := B.returns
  have hts := atoms_spec (ws := wsX3_clear) B.pre
  have hown : s.vm.findClass RX3 = some m.cls := findClass_of_methodNamed B.named
  have hlocks := B.notSynchronized
  subst hsz
  have hD := hD0.self (sz := s.heap.size)
  clear hD0
  generalize hAe : va_A (wF k aF Fkinds Flefts Frights Fplaces Fvalues Fslopes Fexponents Fsize Froot) s.heap.size = A at hD ⊢
  have hA : ∀ q : Nat, s.heap.size ≤ q → A q := fun q h => by rw [← hAe]; exact Or.inr h
  have hS : va_S A s.heap s.heap [] := va_S.rf
  have hl := lv_entry ([.ref (aF 0)]) (n := 1) (Nat.le_of_ble_eq_true rfl)
  rw [show entryFrame m args 1 = entryFrame m ([.ref (aF 0)] : List Value).toArray 1 from by rw [hav], lg_entry_eq]
  generalize (lg_sl ([.ref (aF 0)]) ++ List.replicate (1 - (lg_sl ([.ref (aF 0)])).length) Slot.unset).toArray = ls at hl ⊢
  replace hl : lv_has ls 1 [(0, .ref (aF 0))] := hl
  have f34 := hts (.fieldLink RX3 34 "UncertainBook$Formula" "size" "I") (by decide +kernel)
  have f38 := hts (.fieldLink RX3 38 "UncertainBook$Formula" "root" "I") (by decide +kernel)
  have iX3 : ∀ w ∈ u_ws RX3 TX3 9, w ∈ wsX3_clear := by decide +kernel
  refine w_q (fun Q hQ => ?_)
  unfold fX3_clear at h
  show W p l e rmX3_clear s m args below meth c s.heap [] 0 0 Q (F0 m 0 ls [])
  suffices main : ∀ (H : Heap) (locs : List Loc) (ls : Array Slot), va_P D vwCl (wF k aF Fkinds Flefts Frights Fplaces Fvalues Fslopes Fexponents Fsize Froot) H → va_D A (wF k aF Fkinds Flefts Frights Fplaces Fvalues Fslopes Fexponents Fsize Froot) → va_S A s.heap H locs → lv_has ls 1 [(0, .ref (aF 0))] → W p l e rmX3_clear s m args below meth c H locs 0 0 Q (F0 m 0 ls []) from main _ _ _ hP hD hS hl
  clear hP hD hS hl ls hAe
  intro H locs ls hP hD hS hl
  refine lv_aload_n hx hb dX3_clear_0 rfl (lv_at hl 0 rfl) ?_
  refine lv_iconst (v := 0) hx hb dX3_clear_1 (by decide) ?_
  refine va_put (D := D) (ci := 3) (v := .int 0) (ty := .int) (C := RX3) (T := TX3) (N := 9) hx hb hts iX3 tyX3 tyX3_ok nmX3 hown hK hP hD hS 0 rfl rfl 7 (by decide) f34 (fun _ h9 => h9) rfl (by decide +kernel) rfl rfl (Nat.le_of_ble_eq_true rfl) dX3_clear_2 (fun H locs hP hD hS => ?_)
  replace hP : va_P D vwCl (wF k aF Fkinds Flefts Frights Fplaces Fvalues Fslopes Fexponents 0 Froot) H := hP
  replace hD : va_D A (wF k aF Fkinds Flefts Frights Fplaces Fvalues Fslopes Fexponents 0 Froot) := hD
  refine lv_aload_n hx hb dX3_clear_5 rfl (lv_at hl 0 rfl) ?_
  refine lv_iconst (v := 0) hx hb dX3_clear_6 (by decide) ?_
  refine va_put (D := D) (ci := 3) (v := .int 0) (ty := .int) (C := RX3) (T := TX3) (N := 9) hx hb hts iX3 tyX3 tyX3_ok nmX3 hown hK hP hD hS 0 rfl rfl 8 (by decide) f38 (fun _ h9 => h9) rfl (by decide +kernel) rfl rfl (Nat.le_of_ble_eq_true rfl) dX3_clear_7 (fun H locs hP hD hS => ?_)
  replace hP : va_P D vwCl (wF k aF Fkinds Flefts Frights Fplaces Fvalues Fslopes Fexponents 0 0) H := hP
  replace hD : va_D A (wF k aF Fkinds Flefts Frights Fplaces Fvalues Fslopes Fexponents 0 0) := hD
  have hP9 := hP
  have hD9 := hD
  have hS9 := hS
  subst hQ
  cases h
  exact W.vret hx hb hr (fun t ht hW => ⟨⟨(), rfl, trivial, by rw [ht]; exact hP9, va_K.moved hW.alike hK, hD9⟩, hS9.F ht⟩) hS9.2.2 dX3_clear_10
def LX3_find_3 (Fkinds : Nat → Int32) (Flefts : Nat → Int32) (Frights : Nat → Int32) (Fsize : Int32) (v1 : Int32) (v2 : Int32) (v3 : Int32) (E51 : Int32 → Option (Int32)) : Nat → Int32 → Option (Int32)
  | 0, _ => none
  | fuel + 1, v4 => (if Fsize ≤ v4 then E51 v4 else gi v4 60 ((if (Fkinds v4.toNatClampNeg) = v1 then gi v4 60 ((if (Flefts v4.toNatClampNeg) = v2 then gi v4 60 ((if (Frights v4.toNatClampNeg) = v3 then E51 v4 else LX3_find_3 Fkinds Flefts Frights Fsize v1 v2 v3 E51 fuel (v4 + 1))) else LX3_find_3 Fkinds Flefts Frights Fsize v1 v2 v3 E51 fuel (v4 + 1))) else LX3_find_3 Fkinds Flefts Frights Fsize v1 v2 v3 E51 fuel (v4 + 1))))
def fX3_find (v1 : Int32) (v2 : Int32) (v3 : Int32) (Fkinds : Nat → Int32) (Flefts : Nat → Int32) (Frights : Nat → Int32) (Fsize : Int32) : Option (Int32) := LX3_find_3 Fkinds Flefts Frights Fsize v1 v2 v3 (fun (v4 : Int32) => some (v4)) 1000 0
abbrev rmX3_find : Room := { frames := 0, cells := 0, slots := 0, locals := 0 }
set_option maxHeartbeats 4000000 in
set_option maxRecDepth 100000 in
theorem met_X3_find (l : Launch) (D : va_G) (k : Nat → ClassId)  (aF : Nat → Nat) (sz : Nat) (Fkinds : Nat → Int32) (Flefts : Nat → Int32) (Frights : Nat → Int32) (Fplaces : Nat → Int32) (Fvalues : Nat → Int64) (Fslopes : Nat → Int64) (Fexponents : Nat → Int32) (Fsize : Int32) (Froot : Int32) (v1 : Int32) (v2 : Int32) (v3 : Int32) (r : Int32) (h : fX3_find v1 v2 v3 Fkinds Flefts Frights Fsize = some r) : Met l yX3_find wsX3_find rmX3_find (va_Pc [.ref (aF 0), .int v1, .int v2, .int v3] (PreW D k (wF k aF Fkinds Flefts Frights Fplaces Fvalues Fslopes Fexponents Fsize Froot) sz)) (va_Qi (fun r9 (_ : Unit) => r9 = r) (fun _ t => PostW D k (va_A (wF k aF Fkinds Flefts Frights Fplaces Fvalues Fslopes Fexponents Fsize Froot) sz) (wF k aF Fkinds Flefts Frights Fplaces Fvalues Fslopes Fexponents Fsize Froot) t) (va_A (wF k aF Fkinds Flefts Frights Fplaces Fvalues Fslopes Fexponents Fsize Froot) sz)) 0 0 (va_A (wF k aF Fkinds Flefts Frights Fplaces Fvalues Fslopes Fexponents Fsize Froot) sz) := by
  refine Met.ofW (cc := cX3_find) (maxL := 5) (ret := (some .int)) (by decide) rfl ?_
  intro p e s m args below meth c s₁ B hml hv
  obtain ⟨hav, hsz, hP, hK, hD0⟩ := hv
  have hx := B.exec
  have hb := B.bytes
  have hr := B.returns
  have hts := atoms_spec (ws := wsX3_find) B.pre
  have hown : s.vm.findClass RX3 = some m.cls := findClass_of_methodNamed B.named
  have hlocks := B.notSynchronized
  subst hsz
  have hD := hD0.self (sz := s.heap.size)
  clear hD0
  generalize hAe : va_A (wF k aF Fkinds Flefts Frights Fplaces Fvalues Fslopes Fexponents Fsize Froot) s.heap.size = A at hD ⊢
  have hA : ∀ q : Nat, s.heap.size ≤ q → A q := fun q h => by rw [← hAe]; exact Or.inr h
  have hS : va_S A s.heap s.heap [] := va_S.rf
  have hl := lv_entry ([.ref (aF 0), .int v1, .int v2, .int v3]) (n := 5) (Nat.le_of_ble_eq_true rfl)
  rw [show entryFrame m args 5 = entryFrame m ([.ref (aF 0), .int v1, .int v2, .int v3] : List Value).toArray 5 from by rw [hav], lg_entry_eq]
  generalize (lg_sl ([.ref (aF 0), .int v1, .int v2, .int v3]) ++ List.replicate (5 - (lg_sl ([.ref (aF 0), .int v1, .int v2, .int v3])).length) Slot.unset).toArray = ls at hl ⊢
  replace hl : lv_has ls 5 [(0, .ref (aF 0)), (1, .int v1), (2, .int v2), (3, .int v3)] := hl
  have f9 := hts (.fieldLink RX3 9 "UncertainBook$Formula" "kinds" "[I") (by decide +kernel)
  have f15 := hts (.fieldLink RX3 15 "UncertainBook$Formula" "lefts" "[I") (by decide +kernel)
  have f18 := hts (.fieldLink RX3 18 "UncertainBook$Formula" "rights" "[I") (by decide +kernel)
  have f34 := hts (.fieldLink RX3 34 "UncertainBook$Formula" "size" "I") (by decide +kernel)
  have iX3 : ∀ w ∈ u_ws RX3 TX3 9, w ∈ wsX3_find := by decide +kernel
  refine w_q (fun Q hQ => ?_)
  unfold fX3_find at h
  show W p l e rmX3_find s m args below meth c s.heap [] 0 0 Q (F0 m 0 ls [])
  have LH_3 : ∀ (E51 : Int32 → Option (Int32)) (hE51 : ∀ (v4 : Int32), E51 v4 = some r → ∀ (H : Heap) (locs : List Loc) (ls : Array Slot), va_P D vwCl (wF k aF Fkinds Flefts Frights Fplaces Fvalues Fslopes Fexponents Fsize Froot) H → va_D A (wF k aF Fkinds Flefts Frights Fplaces Fvalues Fslopes Fexponents Fsize Froot) → va_S A s.heap H locs → lv_has ls 5 [(4, .int v4)] → W p l e rmX3_find s m args below meth c H locs 0 0 Q (F0 m 51 ls [])) (n : Nat) (v4 : Int32), LX3_find_3 Fkinds Flefts Frights Fsize v1 v2 v3 E51 n v4 = some r → ∀ (H : Heap) (locs : List Loc) (ls : Array Slot), va_P D vwCl (wF k aF Fkinds Flefts Frights Fplaces Fvalues Fslopes Fexponents Fsize Froot) H → va_D A (wF k aF Fkinds Flefts Frights Fplaces Fvalues Fslopes Fexponents Fsize Froot) → va_S A s.heap H locs → lv_has ls 5 [(0, .ref (aF 0)), (1, .int v1), (2, .int v2), (3, .int v3), (4, .int v4)] → W p l e rmX3_find s m args below meth c H locs 0 0 Q (F0 m 3 ls []) := by
    intro E51 hE51 n
    induction n with
    | zero => intro v4 h; simp [LX3_find_3] at h
    | succ n ih =>
    intro v4 h H locs ls hP hD hS hl
    rw [LX3_find_3] at h
    refine lv_iload hx hb dX3_find_3 (lv_at hl 4 rfl) ?_
    refine lv_aload_n hx hb dX3_find_5 rfl (lv_at hl 0 rfl) ?_
    refine va_get (D := D) (ci := 3) (v := .int Fsize) (C := RX3) (T := TX3) (N := 9) hx hb hts iX3 hown hK hP 0 rfl rfl 7 (by decide) f34 (fun _ h9 => h9) rfl dX3_find_6 ?_
    refine lv_icmp_ge (tgt := 51) hx hb dX3_find_9 (by decide) (fun c1 => ?_) (fun c1 => ?_)
    · replace h := sf_t c1 h
      exact hE51 _ h _ _ _ hP hD hS (lv_sub hl [4] rfl)
    · replace h := sf_f c1 h
      refine lv_aload_n hx hb dX3_find_12 rfl (lv_at hl 0 rfl) ?_
      refine va_get (D := D) (ci := 3) (v := .ref (aF 1)) (C := RX3) (T := TX3) (N := 9) hx hb hts iX3 hown hK hP 0 rfl rfl 0 (by decide) f9 (fun _ h9 => h9) rfl dX3_find_13 ?_
      refine lv_iload hx hb dX3_find_16 (lv_at hl 4 rfl) ?_
      obtain ⟨hi2, h⟩ := gi_inv h
      refine va_iald hx hb hK hP 1 0 rfl rfl hi2 dX3_find_18 ?_
      refine lv_iload_n hx hb dX3_find_19 rfl (lv_at hl 1 rfl) ?_
      refine lv_icmp_ne (tgt := 45) hx hb dX3_find_20 (by decide) (fun c3 => ?_) (fun c3 => ?_)
      · replace h := sf_f c3 h
        refine lv_iinc (v := v4 + 1) (lv' := [(4, .int (v4 + 1)), (0, .ref (aF 0)), (1, .int v1), (2, .int v2), (3, .int v3)]) hx hb dX3_find_45 hl (k := 4) rfl rfl (by decide) rfl (fun ls hl => ?_)
        refine lv_goto (tgt := 3) hx hb dX3_find_48 (by decide) ?_
        exact ih _ h _ _ _ hP hD hS (lv_sub hl [1, 2, 3, 4, 0] rfl)
      · replace h := sf_t c3 h
        refine lv_aload_n hx hb dX3_find_23 rfl (lv_at hl 0 rfl) ?_
        refine va_get (D := D) (ci := 3) (v := .ref (aF 2)) (C := RX3) (T := TX3) (N := 9) hx hb hts iX3 hown hK hP 0 rfl rfl 1 (by decide) f15 (fun _ h9 => h9) rfl dX3_find_24 ?_
        refine lv_iload hx hb dX3_find_27 (lv_at hl 4 rfl) ?_
        obtain ⟨hi4, h⟩ := gi_inv h
        refine va_iald hx hb hK hP 2 0 rfl rfl hi4 dX3_find_29 ?_
        refine lv_iload_n hx hb dX3_find_30 rfl (lv_at hl 2 rfl) ?_
        refine lv_icmp_ne (tgt := 45) hx hb dX3_find_31 (by decide) (fun c5 => ?_) (fun c5 => ?_)
        · replace h := sf_f c5 h
          refine lv_iinc (v := v4 + 1) (lv' := [(4, .int (v4 + 1)), (0, .ref (aF 0)), (1, .int v1), (2, .int v2), (3, .int v3)]) hx hb dX3_find_45 hl (k := 4) rfl rfl (by decide) rfl (fun ls hl => ?_)
          refine lv_goto (tgt := 3) hx hb dX3_find_48 (by decide) ?_
          exact ih _ h _ _ _ hP hD hS (lv_sub hl [1, 2, 3, 4, 0] rfl)
        · replace h := sf_t c5 h
          refine lv_aload_n hx hb dX3_find_34 rfl (lv_at hl 0 rfl) ?_
          refine va_get (D := D) (ci := 3) (v := .ref (aF 3)) (C := RX3) (T := TX3) (N := 9) hx hb hts iX3 hown hK hP 0 rfl rfl 2 (by decide) f18 (fun _ h9 => h9) rfl dX3_find_35 ?_
          refine lv_iload hx hb dX3_find_38 (lv_at hl 4 rfl) ?_
          obtain ⟨hi6, h⟩ := gi_inv h
          refine va_iald hx hb hK hP 3 0 rfl rfl hi6 dX3_find_40 ?_
          refine lv_iload_n hx hb dX3_find_41 rfl (lv_at hl 3 rfl) ?_
          refine lv_icmp_eq (tgt := 51) hx hb dX3_find_42 (by decide) (fun c7 => ?_) (fun c7 => ?_)
          · replace h := sf_t c7 h
            exact hE51 _ h _ _ _ hP hD hS (lv_sub hl [4] rfl)
          · replace h := sf_f c7 h
            refine lv_iinc (v := v4 + 1) (lv' := [(4, .int (v4 + 1)), (0, .ref (aF 0)), (1, .int v1), (2, .int v2), (3, .int v3)]) hx hb dX3_find_45 hl (k := 4) rfl rfl (by decide) rfl (fun ls hl => ?_)
            refine lv_goto (tgt := 3) hx hb dX3_find_48 (by decide) ?_
            exact ih _ h _ _ _ hP hD hS (lv_sub hl [1, 2, 3, 4, 0] rfl)
  suffices main : ∀ (H : Heap) (locs : List Loc) (ls : Array Slot), va_P D vwCl (wF k aF Fkinds Flefts Frights Fplaces Fvalues Fslopes Fexponents Fsize Froot) H → va_D A (wF k aF Fkinds Flefts Frights Fplaces Fvalues Fslopes Fexponents Fsize Froot) → va_S A s.heap H locs → lv_has ls 5 [(0, .ref (aF 0)), (1, .int v1), (2, .int v2), (3, .int v3)] → W p l e rmX3_find s m args below meth c H locs 0 0 Q (F0 m 0 ls []) from main _ _ _ hP hD hS hl
  clear hP hD hS hl ls hAe
  intro H locs ls hP hD hS hl
  refine lv_iconst (v := 0) hx hb dX3_find_0 (by decide) ?_
  refine lv_istore (lv' := [(4, .int 0), (0, .ref (aF 0)), (1, .int v1), (2, .int v2), (3, .int v3)]) hx hb dX3_find_1 hl (by decide) rfl (fun ls hl => ?_)
  refine LH_3 _ (fun v4 h H locs ls hP hD hS hl => ?_) _ _ h _ _ _ hP hD hS (lv_sub hl [1, 2, 3, 4, 0] rfl)
  · skip
    refine lv_iload hx hb dX3_find_51 (lv_at hl 0 rfl) ?_
    have hP9 := hP
    have hD9 := hD
    have hS9 := hS
    subst hQ
    cases h
    exact W.iret hx hb hr (fun t ht hW => ⟨⟨_, (), rfl, rfl, by rw [ht]; exact hP9, va_K.moved hW.alike hK, hD9⟩, hS9.F ht⟩) hS9.2.2 dX3_find_53
def fX3_add (v1 : Int32) (v2 : Int32) (v3 : Int32) (v4 : Int32) (Fkinds : Nat → Int32) (Flefts : Nat → Int32) (Frights : Nat → Int32) (Fplaces : Nat → Int32) (Fsize : Int32) : Option (Int32 × (Nat → Int32) × (Nat → Int32) × (Nat → Int32) × (Nat → Int32) × Int32) := bnd1 (fX3_find v1 v2 v3 Fkinds Flefts Frights Fsize) (fun r1 => (if r1 < 60 then (if r1 = Fsize then gi r1 60 (gi r1 60 (gi r1 60 (gi r1 60 (some (r1, upd Fkinds (r1.toNatClampNeg) v1, upd Flefts (r1.toNatClampNeg) v2, upd Frights (r1.toNatClampNeg) v3, upd Fplaces (r1.toNatClampNeg) v4, Fsize + 1))))) else some (r1, Fkinds, Flefts, Frights, Fplaces, Fsize)) else some ((-1), Fkinds, Flefts, Frights, Fplaces, Fsize)))
abbrev rmX3_add : Room := { frames := 1, cells := 0, slots := 0, locals := 24 }
set_option maxHeartbeats 4000000 in
set_option maxRecDepth 100000 in
theorem met_X3_add (l : Launch) (D : va_G) (k : Nat → ClassId)  (aF : Nat → Nat) (sz : Nat) (Fkinds : Nat → Int32) (Flefts : Nat → Int32) (Frights : Nat → Int32) (Fplaces : Nat → Int32) (Fvalues : Nat → Int64) (Fslopes : Nat → Int64) (Fexponents : Nat → Int32) (Fsize : Int32) (Froot : Int32) (v1 : Int32) (v2 : Int32) (v3 : Int32) (v4 : Int32) (r : Int32) (RFkinds : Nat → Int32) (RFlefts : Nat → Int32) (RFrights : Nat → Int32) (RFplaces : Nat → Int32) (RFsize : Int32) (h : fX3_add v1 v2 v3 v4 Fkinds Flefts Frights Fplaces Fsize = some (r, RFkinds, RFlefts, RFrights, RFplaces, RFsize)) : Met l yX3_add wsX3_add rmX3_add (va_Pc [.ref (aF 0), .int v1, .int v2, .int v3, .int v4] (PreW D k (wF k aF Fkinds Flefts Frights Fplaces Fvalues Fslopes Fexponents Fsize Froot) sz)) (va_Qi (fun r9 (_ : Unit) => r9 = r) (fun _ t => PostW D k (va_A (wF k aF Fkinds Flefts Frights Fplaces Fvalues Fslopes Fexponents Fsize Froot) sz) (wF k aF RFkinds RFlefts RFrights RFplaces Fvalues Fslopes Fexponents RFsize Froot) t) (va_A (wF k aF Fkinds Flefts Frights Fplaces Fvalues Fslopes Fexponents Fsize Froot) sz)) 0 0 (va_A (wF k aF Fkinds Flefts Frights Fplaces Fvalues Fslopes Fexponents Fsize Froot) sz) := by
  refine Met.ofW (cc := cX3_add) (maxL := 6) (ret := (some .int)) (by decide) rfl ?_
  intro p e s m args below meth c s₁ B hml hv
  obtain ⟨hav, hsz, hP, hK, hD0⟩ := hv
  have hx := B.exec
  have hb := B.bytes
  have hr := B.returns
  have hts := atoms_spec (ws := wsX3_add) B.pre
  have hown : s.vm.findClass RX3 = some m.cls := findClass_of_methodNamed B.named
  have hlocks := B.notSynchronized
  subst hsz
  have hD := hD0.self (sz := s.heap.size)
  clear hD0
  generalize hAe : va_A (wF k aF Fkinds Flefts Frights Fplaces Fvalues Fslopes Fexponents Fsize Froot) s.heap.size = A at hD ⊢
  have hA : ∀ q : Nat, s.heap.size ≤ q → A q := fun q h => by rw [← hAe]; exact Or.inr h
  have hS : va_S A s.heap s.heap [] := va_S.rf
  have hl := lv_entry ([.ref (aF 0), .int v1, .int v2, .int v3, .int v4]) (n := 6) (Nat.le_of_ble_eq_true rfl)
  rw [show entryFrame m args 6 = entryFrame m ([.ref (aF 0), .int v1, .int v2, .int v3, .int v4] : List Value).toArray 6 from by rw [hav], lg_entry_eq]
  generalize (lg_sl ([.ref (aF 0), .int v1, .int v2, .int v3, .int v4]) ++ List.replicate (6 - (lg_sl ([.ref (aF 0), .int v1, .int v2, .int v3, .int v4])).length) Slot.unset).toArray = ls at hl ⊢
  replace hl : lv_has ls 6 [(0, .ref (aF 0)), (1, .int v1), (2, .int v2), (3, .int v3), (4, .int v4)] := hl
  have f9 := hts (.fieldLink RX3 9 "UncertainBook$Formula" "kinds" "[I") (by decide +kernel)
  have f15 := hts (.fieldLink RX3 15 "UncertainBook$Formula" "lefts" "[I") (by decide +kernel)
  have f18 := hts (.fieldLink RX3 18 "UncertainBook$Formula" "rights" "[I") (by decide +kernel)
  have f21 := hts (.fieldLink RX3 21 "UncertainBook$Formula" "places" "[I") (by decide +kernel)
  have f34 := hts (.fieldLink RX3 34 "UncertainBook$Formula" "size" "I") (by decide +kernel)
  have iX3 : ∀ w ∈ u_ws RX3 TX3 9, w ∈ wsX3_add := by decide +kernel
  refine w_q (fun Q hQ => ?_)
  unfold fX3_add at h
  show W p l e rmX3_add s m args below meth c s.heap [] 0 0 Q (F0 m 0 ls [])
  suffices main : ∀ (H : Heap) (locs : List Loc) (ls : Array Slot), va_P D vwCl (wF k aF Fkinds Flefts Frights Fplaces Fvalues Fslopes Fexponents Fsize Froot) H → va_D A (wF k aF Fkinds Flefts Frights Fplaces Fvalues Fslopes Fexponents Fsize Froot) → va_S A s.heap H locs → lv_has ls 6 [(0, .ref (aF 0)), (1, .int v1), (2, .int v2), (3, .int v3), (4, .int v4)] → W p l e rmX3_add s m args below meth c H locs 0 0 Q (F0 m 0 ls []) from main _ _ _ hP hD hS hl
  clear hP hD hS hl ls hAe
  intro H locs ls hP hD hS hl
  refine lv_aload_n hx hb dX3_add_0 rfl (lv_at hl 0 rfl) ?_
  refine lv_iload_n hx hb dX3_add_1 rfl (lv_at hl 1 rfl) ?_
  refine lv_iload_n hx hb dX3_add_2 rfl (lv_at hl 2 rfl) ?_
  refine lv_iload_n hx hb dX3_add_3 rfl (lv_at hl 3 rfl) ?_
  obtain ⟨r1, hc1, h⟩ := bnd1_inv h
  have hFc := va_free (wc := (wF k aF Fkinds Flefts Frights Fplaces Fvalues Fslopes Fexponents Fsize Froot)) hD hS hA [0, 1, 2, 3, 4, 5, 6, 7] rfl
  refine xc_i (va_runV (As := [.int v1, .int v2, .int v3]) (rest := []) ⟨hx, hb, hml, hown, hts⟩ (met_X3_find l D k  aF H.size Fkinds Flefts Frights Fplaces Fvalues Fslopes Fexponents Fsize Froot v1 v2 v3 r1 hc1) (cwV 3 hts gX3_add_X3_find rfl rfl rfl (by decide +kernel) ⟨Nat.le_of_ble_eq_true rfl, Nat.le_of_ble_eq_true rfl⟩) ⟨pw_blind, va_recv hK hP (ci := 3) (q0 := 0) rfl rfl, pw_start hP hK hD⟩ rfl rfl hl.1 rfl (lv_room (Nat.le_of_ble_eq_true rfl)) dX3_add_4 ⟨Nat.zero_le _, Nat.zero_le _⟩) hS hFc (fun H1 locs hP1 hD1 hk1 hS => ?_)
  obtain ⟨hP, hD⟩ := vj_all hFc hP1 hD1
  clear hP1 hD1 hk1 hFc
  generalize H1 = H at hP hS ⊢
  refine lv_istore (lv' := [(5, .int r1), (0, .ref (aF 0)), (1, .int v1), (2, .int v2), (3, .int v3), (4, .int v4)]) hx hb dX3_add_7 hl (by decide) rfl (fun ls hl => ?_)
  refine lv_iload hx hb dX3_add_9 (lv_at hl 0 rfl) ?_
  refine lv_bipush (v := 60) hx hb dX3_add_11 (by decide) ?_
  refine lv_icmp_lt (tgt := 18) hx hb dX3_add_13 (by decide) (fun c2 => ?_) (fun c2 => ?_)
  · replace h := sf_t c2 h
    refine lv_iload hx hb dX3_add_18 (lv_at hl 0 rfl) ?_
    refine lv_aload_n hx hb dX3_add_20 rfl (lv_at hl 1 rfl) ?_
    refine va_get (D := D) (ci := 3) (v := .int Fsize) (C := RX3) (T := TX3) (N := 9) hx hb hts iX3 hown hK hP 0 rfl rfl 7 (by decide) f34 (fun _ h9 => h9) rfl dX3_add_21 ?_
    refine lv_icmp_ne (tgt := 70) hx hb dX3_add_24 (by decide) (fun c3 => ?_) (fun c3 => ?_)
    · replace h := sf_f c3 h
      refine lv_iload hx hb dX3_add_70 (lv_at hl 0 rfl) ?_
      have hP9 := hP
      have hD9 := hD
      have hS9 := hS
      subst hQ
      cases h
      exact W.iret hx hb hr (fun t ht hW => ⟨⟨_, (), rfl, rfl, by rw [ht]; exact hP9, va_K.moved hW.alike hK, hD9⟩, hS9.F ht⟩) hS9.2.2 dX3_add_72
    · replace h := sf_t c3 h
      refine lv_aload_n hx hb dX3_add_27 rfl (lv_at hl 1 rfl) ?_
      refine va_get (D := D) (ci := 3) (v := .ref (aF 1)) (C := RX3) (T := TX3) (N := 9) hx hb hts iX3 hown hK hP 0 rfl rfl 0 (by decide) f9 (fun _ h9 => h9) rfl dX3_add_28 ?_
      refine lv_iload hx hb dX3_add_31 (lv_at hl 0 rfl) ?_
      refine lv_iload_n hx hb dX3_add_33 rfl (lv_at hl 2 rfl) ?_
      obtain ⟨hi4, h⟩ := gi_inv h
      refine va_iast hx hb hK hP hD hS 1 0 rfl rfl hi4 dX3_add_34 (fun H locs hP hD hS => ?_)
      replace hP : va_P D vwCl (wF k aF (upd Fkinds (r1.toNatClampNeg) v1) Flefts Frights Fplaces Fvalues Fslopes Fexponents Fsize Froot) H := hP
      replace hD : va_D A (wF k aF (upd Fkinds (r1.toNatClampNeg) v1) Flefts Frights Fplaces Fvalues Fslopes Fexponents Fsize Froot) := hD
      refine lv_aload_n hx hb dX3_add_35 rfl (lv_at hl 1 rfl) ?_
      refine va_get (D := D) (ci := 3) (v := .ref (aF 2)) (C := RX3) (T := TX3) (N := 9) hx hb hts iX3 hown hK hP 0 rfl rfl 1 (by decide) f15 (fun _ h9 => h9) rfl dX3_add_36 ?_
      refine lv_iload hx hb dX3_add_39 (lv_at hl 0 rfl) ?_
      refine lv_iload_n hx hb dX3_add_41 rfl (lv_at hl 3 rfl) ?_
      obtain ⟨hi5, h⟩ := gi_inv h
      refine va_iast hx hb hK hP hD hS 2 0 rfl rfl hi5 dX3_add_42 (fun H locs hP hD hS => ?_)
      replace hP : va_P D vwCl (wF k aF (upd Fkinds (r1.toNatClampNeg) v1) (upd Flefts (r1.toNatClampNeg) v2) Frights Fplaces Fvalues Fslopes Fexponents Fsize Froot) H := hP
      replace hD : va_D A (wF k aF (upd Fkinds (r1.toNatClampNeg) v1) (upd Flefts (r1.toNatClampNeg) v2) Frights Fplaces Fvalues Fslopes Fexponents Fsize Froot) := hD
      refine lv_aload_n hx hb dX3_add_43 rfl (lv_at hl 1 rfl) ?_
      refine va_get (D := D) (ci := 3) (v := .ref (aF 3)) (C := RX3) (T := TX3) (N := 9) hx hb hts iX3 hown hK hP 0 rfl rfl 2 (by decide) f18 (fun _ h9 => h9) rfl dX3_add_44 ?_
      refine lv_iload hx hb dX3_add_47 (lv_at hl 0 rfl) ?_
      refine lv_iload_n hx hb dX3_add_49 rfl (lv_at hl 4 rfl) ?_
      obtain ⟨hi6, h⟩ := gi_inv h
      refine va_iast hx hb hK hP hD hS 3 0 rfl rfl hi6 dX3_add_50 (fun H locs hP hD hS => ?_)
      replace hP : va_P D vwCl (wF k aF (upd Fkinds (r1.toNatClampNeg) v1) (upd Flefts (r1.toNatClampNeg) v2) (upd Frights (r1.toNatClampNeg) v3) Fplaces Fvalues Fslopes Fexponents Fsize Froot) H := hP
      replace hD : va_D A (wF k aF (upd Fkinds (r1.toNatClampNeg) v1) (upd Flefts (r1.toNatClampNeg) v2) (upd Frights (r1.toNatClampNeg) v3) Fplaces Fvalues Fslopes Fexponents Fsize Froot) := hD
      refine lv_aload_n hx hb dX3_add_51 rfl (lv_at hl 1 rfl) ?_
      refine va_get (D := D) (ci := 3) (v := .ref (aF 4)) (C := RX3) (T := TX3) (N := 9) hx hb hts iX3 hown hK hP 0 rfl rfl 3 (by decide) f21 (fun _ h9 => h9) rfl dX3_add_52 ?_
      refine lv_iload hx hb dX3_add_55 (lv_at hl 0 rfl) ?_
      refine lv_iload hx hb dX3_add_57 (lv_at hl 5 rfl) ?_
      obtain ⟨hi7, h⟩ := gi_inv h
      refine va_iast hx hb hK hP hD hS 4 0 rfl rfl hi7 dX3_add_59 (fun H locs hP hD hS => ?_)
      replace hP : va_P D vwCl (wF k aF (upd Fkinds (r1.toNatClampNeg) v1) (upd Flefts (r1.toNatClampNeg) v2) (upd Frights (r1.toNatClampNeg) v3) (upd Fplaces (r1.toNatClampNeg) v4) Fvalues Fslopes Fexponents Fsize Froot) H := hP
      replace hD : va_D A (wF k aF (upd Fkinds (r1.toNatClampNeg) v1) (upd Flefts (r1.toNatClampNeg) v2) (upd Frights (r1.toNatClampNeg) v3) (upd Fplaces (r1.toNatClampNeg) v4) Fvalues Fslopes Fexponents Fsize Froot) := hD
      refine lv_aload_n hx hb dX3_add_60 rfl (lv_at hl 1 rfl) ?_
      refine lv_dup hx hb dX3_add_61 rfl ?_
      refine va_get (D := D) (ci := 3) (v := .int Fsize) (C := RX3) (T := TX3) (N := 9) hx hb hts iX3 hown hK hP 0 rfl rfl 7 (by decide) f34 (fun _ h9 => h9) rfl dX3_add_62 ?_
      refine lv_iconst (v := 1) hx hb dX3_add_65 (by decide) ?_
      refine lv_iadd hx hb dX3_add_66 ?_
      refine va_put (D := D) (ci := 3) (v := .int (Fsize + 1)) (ty := .int) (C := RX3) (T := TX3) (N := 9) hx hb hts iX3 tyX3 tyX3_ok nmX3 hown hK hP hD hS 0 rfl rfl 7 (by decide) f34 (fun _ h9 => h9) rfl (by decide +kernel) rfl rfl (Nat.le_of_ble_eq_true rfl) dX3_add_67 (fun H locs hP hD hS => ?_)
      replace hP : va_P D vwCl (wF k aF (upd Fkinds (r1.toNatClampNeg) v1) (upd Flefts (r1.toNatClampNeg) v2) (upd Frights (r1.toNatClampNeg) v3) (upd Fplaces (r1.toNatClampNeg) v4) Fvalues Fslopes Fexponents (Fsize + 1) Froot) H := hP
      replace hD : va_D A (wF k aF (upd Fkinds (r1.toNatClampNeg) v1) (upd Flefts (r1.toNatClampNeg) v2) (upd Frights (r1.toNatClampNeg) v3) (upd Fplaces (r1.toNatClampNeg) v4) Fvalues Fslopes Fexponents (Fsize + 1) Froot) := hD
      refine lv_iload hx hb dX3_add_70 (lv_at hl 0 rfl) ?_
      have hP9 := hP
      have hD9 := hD
      have hS9 := hS
      subst hQ
      cases h
      exact W.iret hx hb hr (fun t ht hW => ⟨⟨_, (), rfl, rfl, by rw [ht]; exact hP9, va_K.moved hW.alike hK, hD9⟩, hS9.F ht⟩) hS9.2.2 dX3_add_72
  · replace h := sf_f c2 h
    refine lv_iconst (v := -1) hx hb dX3_add_16 (by decide) ?_
    have hP9 := hP
    have hD9 := hD
    have hS9 := hS
    subst hQ
    cases h
    exact W.iret hx hb hr (fun t ht hW => ⟨⟨_, (), rfl, rfl, by rw [ht]; exact hP9, va_K.moved hW.alike hK, hD9⟩, hS9.F ht⟩) hS9.2.2 dX3_add_17
def LX3_power_5 (v0 : Int64) (v2 : Int32) (E21 : Int64 → Option (Int64)) : Nat → Int64 → Int32 → Option (Int64)
  | 0, _, _ => none
  | fuel + 1, v3, v5 => (if v2 ≤ v5 then E21 v3 else LX3_power_5 v0 v2 E21 fuel (v3 * v0) (v5 + 1))
def fX3_power (v0 : Int64) (v2 : Int32) : Option (Int64) := LX3_power_5 v0 v2 (fun (v3 : Int64) => some (v3)) 1000 1 0
abbrev rmX3_power : Room := { frames := 0, cells := 0, slots := 0, locals := 0 }
set_option maxHeartbeats 4000000 in
set_option maxRecDepth 100000 in
theorem met_X3_power (l : Launch) (D : va_G) (k : Nat → ClassId)   (sz : Nat)  (v0 : Int64) (v2 : Int32) (r : Int64) (h : fX3_power v0 v2 = some r) : Met l yX3_power wsX3_power rmX3_power (va_Pc [.long v0, .int v2] (PreW D k ([] : va_W) sz)) (va_Ql (fun r9 (_ : Unit) => r9 = r) (fun _ t => PostW D k (va_A ([] : va_W) sz) ([] : va_W) t) (va_A ([] : va_W) sz)) 0 0 (va_A ([] : va_W) sz) := by
  refine Met.ofW (cc := cX3_power) (maxL := 6) (ret := (some .long)) (by decide) rfl ?_
  intro p e s m args below meth c s₁ B hml hv
  obtain ⟨hav, hsz, hP, hK, hD0⟩ := hv
  have hx := B.exec
  have hb := B.bytes
  have hr := B.returns
  have hts := atoms_spec (ws := wsX3_power) B.pre
  have hown : s.vm.findClass RX3 = some m.cls := findClass_of_methodNamed B.named
  have hlocks := B.notSynchronized
  subst hsz
  have hD := hD0.self (sz := s.heap.size)
  clear hD0
  generalize hAe : va_A ([] : va_W) s.heap.size = A at hD ⊢
  have hA : ∀ q : Nat, s.heap.size ≤ q → A q := fun q h => by rw [← hAe]; exact Or.inr h
  have hS : va_S A s.heap s.heap [] := va_S.rf
  have hl := lv_entry ([.long v0, .int v2]) (n := 6) (Nat.le_of_ble_eq_true rfl)
  rw [show entryFrame m args 6 = entryFrame m ([.long v0, .int v2] : List Value).toArray 6 from by rw [hav], lg_entry_eq]
  generalize (lg_sl ([.long v0, .int v2]) ++ List.replicate (6 - (lg_sl ([.long v0, .int v2])).length) Slot.unset).toArray = ls at hl ⊢
  replace hl : lv_has ls 6 [(0, .long v0), (2, .int v2)] := hl
  refine w_q (fun Q hQ => ?_)
  unfold fX3_power at h
  show W p l e rmX3_power s m args below meth c s.heap [] 0 0 Q (F0 m 0 ls [])
  have LH_5 : ∀ (E21 : Int64 → Option (Int64)) (hE21 : ∀ (v3 : Int64), E21 v3 = some r → ∀ (H : Heap) (locs : List Loc) (ls : Array Slot), va_P D vwCl ([] : va_W) H → va_D A ([] : va_W) → va_S A s.heap H locs → lv_has ls 6 [(3, .long v3)] → W p l e rmX3_power s m args below meth c H locs 0 0 Q (F0 m 21 ls [])) (n : Nat) (v3 : Int64) (v5 : Int32), LX3_power_5 v0 v2 E21 n v3 v5 = some r → ∀ (H : Heap) (locs : List Loc) (ls : Array Slot), va_P D vwCl ([] : va_W) H → va_D A ([] : va_W) → va_S A s.heap H locs → lv_has ls 6 [(0, .long v0), (2, .int v2), (3, .long v3), (5, .int v5)] → W p l e rmX3_power s m args below meth c H locs 0 0 Q (F0 m 5 ls []) := by
    intro E21 hE21 n
    induction n with
    | zero => intro v3 v5 h; simp [LX3_power_5] at h
    | succ n ih =>
    intro v3 v5 h H locs ls hP hD hS hl
    rw [LX3_power_5] at h
    refine lv_iload hx hb dX3_power_5 (lv_at hl 3 rfl) ?_
    refine lv_iload_n hx hb dX3_power_7 rfl (lv_at hl 1 rfl) ?_
    refine lv_icmp_ge (tgt := 21) hx hb dX3_power_8 (by decide) (fun c1 => ?_) (fun c1 => ?_)
    · replace h := sf_t c1 h
      exact hE21 _ h _ _ _ hP hD hS (lv_sub hl [2] rfl)
    · replace h := sf_f c1 h
      refine lv_lload_n hx hb dX3_power_11 rfl (lv_at hl 2 rfl) ?_
      refine lv_lload_n hx hb dX3_power_12 rfl (lv_at hl 0 rfl) ?_
      refine lv_lmul hx hb dX3_power_13 ?_
      refine lv_lstore_n (lv' := [(3, .long (v3 * v0)), (0, .long v0), (2, .int v2), (5, .int v5)]) hx hb dX3_power_14 rfl hl (by decide) rfl (fun ls hl => ?_)
      refine lv_iinc (v := v5 + 1) (lv' := [(5, .int (v5 + 1)), (3, .long (v3 * v0)), (0, .long v0), (2, .int v2)]) hx hb dX3_power_15 hl (k := 3) rfl rfl (by decide) rfl (fun ls hl => ?_)
      refine lv_goto (tgt := 5) hx hb dX3_power_18 (by decide) ?_
      exact ih _ _ h _ _ _ hP hD hS (lv_sub hl [2, 3, 1, 0] rfl)
  suffices main : ∀ (H : Heap) (locs : List Loc) (ls : Array Slot), va_P D vwCl ([] : va_W) H → va_D A ([] : va_W) → va_S A s.heap H locs → lv_has ls 6 [(0, .long v0), (2, .int v2)] → W p l e rmX3_power s m args below meth c H locs 0 0 Q (F0 m 0 ls []) from main _ _ _ hP hD hS hl
  clear hP hD hS hl ls hAe
  intro H locs ls hP hD hS hl
  refine lv_lconst (v := 1) hx hb dX3_power_0 (by decide) ?_
  refine lv_lstore_n (lv' := [(3, .long 1), (0, .long v0), (2, .int v2)]) hx hb dX3_power_1 rfl hl (by decide) rfl (fun ls hl => ?_)
  refine lv_iconst (v := 0) hx hb dX3_power_2 (by decide) ?_
  refine lv_istore (lv' := [(5, .int 0), (3, .long 1), (0, .long v0), (2, .int v2)]) hx hb dX3_power_3 hl (by decide) rfl (fun ls hl => ?_)
  refine LH_5 _ (fun v3 h H locs ls hP hD hS hl => ?_) _ _ _ h _ _ _ hP hD hS (lv_sub hl [2, 3, 1, 0] rfl)
  · skip
    refine lv_lload_n hx hb dX3_power_21 rfl (lv_at hl 0 rfl) ?_
    have hP9 := hP
    have hD9 := hD
    have hS9 := hS
    subst hQ
    cases h
    exact W.lret hx hb hr (fun t ht hW => ⟨⟨_, (), rfl, rfl, by rw [ht]; exact hP9, va_K.moved hW.alike hK, hD9⟩, hS9.F ht⟩) hS9.2.2 dX3_power_22
def fX3_reckonPart (v1 : Int32) (Fkinds : Nat → Int32) (Flefts : Nat → Int32) (Frights : Nat → Int32) (Fvalues : Nat → Int64) (uA : Nat → Int32) : Option (Int64) := gi v1 60 (gi v1 60 (gi v1 60 ((if (Fkinds v1.toNatClampNeg) = 0 then some ((Flefts v1.toNatClampNeg).toInt64) else if (Fkinds v1.toNatClampNeg) = 1 then gi (Flefts v1.toNatClampNeg) 6 (some ((uA (Flefts v1.toNatClampNeg).toNatClampNeg).toInt64)) else if (Fkinds v1.toNatClampNeg) = 2 then gi (Flefts v1.toNatClampNeg) 60 (some (-(Fvalues (Flefts v1.toNatClampNeg).toNatClampNeg))) else if (Fkinds v1.toNatClampNeg) = 3 then gi (Flefts v1.toNatClampNeg) 60 (gi (Frights v1.toNatClampNeg) 60 (some ((Fvalues (Flefts v1.toNatClampNeg).toNatClampNeg) + (Fvalues (Frights v1.toNatClampNeg).toNatClampNeg)))) else if (Fkinds v1.toNatClampNeg) = 4 then gi (Flefts v1.toNatClampNeg) 60 (gi (Frights v1.toNatClampNeg) 60 (some ((Fvalues (Flefts v1.toNatClampNeg).toNatClampNeg) - (Fvalues (Frights v1.toNatClampNeg).toNatClampNeg)))) else if (Fkinds v1.toNatClampNeg) = 5 then gi (Flefts v1.toNatClampNeg) 60 (gi (Frights v1.toNatClampNeg) 60 (some ((Fvalues (Flefts v1.toNatClampNeg).toNatClampNeg) * (Fvalues (Frights v1.toNatClampNeg).toNatClampNeg)))) else gi (Flefts v1.toNatClampNeg) 60 (bnd1 (fX3_power (Fvalues (Flefts v1.toNatClampNeg).toNatClampNeg) (Frights v1.toNatClampNeg)) (fun r19 => some (r19)))))))
abbrev rmX3_reckonPart : Room := { frames := 1, cells := 0, slots := 0, locals := 25 }
set_option maxHeartbeats 4000000 in
set_option maxRecDepth 100000 in
theorem met_X3_reckonPart (l : Launch) (D : va_G) (k : Nat → ClassId)  (aF : Nat → Nat) (qu : Nat) (sz : Nat) (Fkinds : Nat → Int32) (Flefts : Nat → Int32) (Frights : Nat → Int32) (Fplaces : Nat → Int32) (Fvalues : Nat → Int64) (Fslopes : Nat → Int64) (Fexponents : Nat → Int32) (Fsize : Int32) (Froot : Int32) (uA : Nat → Int32) (v1 : Int32) (r : Int64) (h : fX3_reckonPart v1 Fkinds Flefts Frights Fvalues uA = some r) : Met l yX3_reckonPart wsX3_reckonPart rmX3_reckonPart (va_Pc [.ref (aF 0), .int v1, .ref qu] (PreW D k ((wF k aF Fkinds Flefts Frights Fplaces Fvalues Fslopes Fexponents Fsize Froot) ++ ([(qu, .inl (k 0, 6, .inl uA))])) sz)) (va_Ql (fun r9 (_ : Unit) => r9 = r) (fun _ t => PostW D k (va_A ((wF k aF Fkinds Flefts Frights Fplaces Fvalues Fslopes Fexponents Fsize Froot) ++ ([(qu, .inl (k 0, 6, .inl uA))])) sz) ((wF k aF Fkinds Flefts Frights Fplaces Fvalues Fslopes Fexponents Fsize Froot) ++ ([(qu, .inl (k 0, 6, .inl uA))])) t) (va_A ((wF k aF Fkinds Flefts Frights Fplaces Fvalues Fslopes Fexponents Fsize Froot) ++ ([(qu, .inl (k 0, 6, .inl uA))])) sz)) 0 0 (va_A ((wF k aF Fkinds Flefts Frights Fplaces Fvalues Fslopes Fexponents Fsize Froot) ++ ([(qu, .inl (k 0, 6, .inl uA))])) sz) := by
  refine Met.ofW (cc := cX3_reckonPart) (maxL := 5) (ret := (some .long)) (by decide) rfl ?_
  intro p e s m args below meth c s₁ B hml hv
  obtain ⟨hav, hsz, hP, hK, hD0⟩ := hv
  have hx := B.exec
  have hb := B.bytes
  have hr := B.returns
  have hts := atoms_spec (ws := wsX3_reckonPart) B.pre
  have hown : s.vm.findClass RX3 = some m.cls := findClass_of_methodNamed B.named
  have hlocks := B.notSynchronized
  subst hsz
  have hD := hD0.self (sz := s.heap.size)
  clear hD0
  generalize hAe : va_A ((wF k aF Fkinds Flefts Frights Fplaces Fvalues Fslopes Fexponents Fsize Froot) ++ ([(qu, .inl (k 0, 6, .inl uA))])) s.heap.size = A at hD ⊢
  have hA : ∀ q : Nat, s.heap.size ≤ q → A q := fun q h => by rw [← hAe]; exact Or.inr h
  have hS : va_S A s.heap s.heap [] := va_S.rf
  have hl := lv_entry ([.ref (aF 0), .int v1, .ref qu]) (n := 5) (Nat.le_of_ble_eq_true rfl)
  rw [show entryFrame m args 5 = entryFrame m ([.ref (aF 0), .int v1, .ref qu] : List Value).toArray 5 from by rw [hav], lg_entry_eq]
  generalize (lg_sl ([.ref (aF 0), .int v1, .ref qu]) ++ List.replicate (5 - (lg_sl ([.ref (aF 0), .int v1, .ref qu])).length) Slot.unset).toArray = ls at hl ⊢
  replace hl : lv_has ls 5 [(0, .ref (aF 0)), (1, .int v1), (2, .ref qu)] := hl
  have f9 := hts (.fieldLink RX3 9 "UncertainBook$Formula" "kinds" "[I") (by decide +kernel)
  have f15 := hts (.fieldLink RX3 15 "UncertainBook$Formula" "lefts" "[I") (by decide +kernel)
  have f18 := hts (.fieldLink RX3 18 "UncertainBook$Formula" "rights" "[I") (by decide +kernel)
  have f24 := hts (.fieldLink RX3 24 "UncertainBook$Formula" "values" "[J") (by decide +kernel)
  have iX3 : ∀ w ∈ u_ws RX3 TX3 9, w ∈ wsX3_reckonPart := by decide +kernel
  refine w_q (fun Q hQ => ?_)
  unfold fX3_reckonPart at h
  show W p l e rmX3_reckonPart s m args below meth c s.heap [] 0 0 Q (F0 m 0 ls [])
  suffices main : ∀ (H : Heap) (locs : List Loc) (ls : Array Slot), va_P D vwCl ((wF k aF Fkinds Flefts Frights Fplaces Fvalues Fslopes Fexponents Fsize Froot) ++ ([(qu, .inl (k 0, 6, .inl uA))])) H → va_D A ((wF k aF Fkinds Flefts Frights Fplaces Fvalues Fslopes Fexponents Fsize Froot) ++ ([(qu, .inl (k 0, 6, .inl uA))])) → va_S A s.heap H locs → lv_has ls 5 [(0, .ref (aF 0)), (1, .int v1), (2, .ref qu)] → W p l e rmX3_reckonPart s m args below meth c H locs 0 0 Q (F0 m 0 ls []) from main _ _ _ hP hD hS hl
  clear hP hD hS hl ls hAe
  intro H locs ls hP hD hS hl
  refine lv_aload_n hx hb dX3_reckonPart_0 rfl (lv_at hl 0 rfl) ?_
  refine va_get (D := D) (ci := 3) (v := .ref (aF 2)) (C := RX3) (T := TX3) (N := 9) hx hb hts iX3 hown hK hP 0 rfl rfl 1 (by decide) f15 (fun _ h9 => h9) rfl dX3_reckonPart_1 ?_
  refine lv_iload_n hx hb dX3_reckonPart_4 rfl (lv_at hl 1 rfl) ?_
  obtain ⟨hi1, h⟩ := gi_inv h
  refine va_iald hx hb hK hP 2 0 rfl rfl hi1 dX3_reckonPart_5 ?_
  refine lv_istore_n (lv' := [(3, .int (Flefts v1.toNatClampNeg)), (0, .ref (aF 0)), (1, .int v1), (2, .ref qu)]) hx hb dX3_reckonPart_6 rfl hl (by decide) rfl (fun ls hl => ?_)
  refine lv_aload_n hx hb dX3_reckonPart_7 rfl (lv_at hl 1 rfl) ?_
  refine va_get (D := D) (ci := 3) (v := .ref (aF 3)) (C := RX3) (T := TX3) (N := 9) hx hb hts iX3 hown hK hP 0 rfl rfl 2 (by decide) f18 (fun _ h9 => h9) rfl dX3_reckonPart_8 ?_
  refine lv_iload_n hx hb dX3_reckonPart_11 rfl (lv_at hl 2 rfl) ?_
  obtain ⟨hi2, h⟩ := gi_inv h
  refine va_iald hx hb hK hP 3 0 rfl rfl hi2 dX3_reckonPart_12 ?_
  refine lv_istore (lv' := [(4, .int (Frights v1.toNatClampNeg)), (3, .int (Flefts v1.toNatClampNeg)), (0, .ref (aF 0)), (1, .int v1), (2, .ref qu)]) hx hb dX3_reckonPart_13 hl (by decide) rfl (fun ls hl => ?_)
  refine lv_aload_n hx hb dX3_reckonPart_15 rfl (lv_at hl 2 rfl) ?_
  refine va_get (D := D) (ci := 3) (v := .ref (aF 1)) (C := RX3) (T := TX3) (N := 9) hx hb hts iX3 hown hK hP 0 rfl rfl 0 (by decide) f9 (fun _ h9 => h9) rfl dX3_reckonPart_16 ?_
  refine lv_iload_n hx hb dX3_reckonPart_19 rfl (lv_at hl 3 rfl) ?_
  obtain ⟨hi3, h⟩ := gi_inv h
  refine va_iald hx hb hK hP 1 0 rfl rfl hi3 dX3_reckonPart_20 ?_
  rcases Decidable.em ((Fkinds v1.toNatClampNeg) = 0) with c4 | c4
  · replace h := sf_t c4 h
    refine lv_tableIn (off := 39) (tgt := 60) hx hb dX3_reckonPart_21 (by rw [c4]; decide) (by rw [c4]; decide) (by rw [c4]; rfl) (by decide) ?_
    refine lv_iload_n hx hb dX3_reckonPart_60 rfl (lv_at hl 1 rfl) ?_
    refine lv_i2l hx hb dX3_reckonPart_61 rfl ?_
    have hP9 := hP
    have hD9 := hD
    have hS9 := hS
    subst hQ
    cases h
    exact W.lret hx hb hr (fun t ht hW => ⟨⟨_, (), rfl, rfl, by rw [ht]; exact hP9, va_K.moved hW.alike hK, hD9⟩, hS9.F ht⟩) hS9.2.2 dX3_reckonPart_62
  replace h := sf_f c4 h
  rcases Decidable.em ((Fkinds v1.toNatClampNeg) = 1) with c5 | c5
  · replace h := sf_t c5 h
    refine lv_tableIn (off := 42) (tgt := 63) hx hb dX3_reckonPart_21 (by rw [c5]; decide) (by rw [c5]; decide) (by rw [c5]; rfl) (by decide) ?_
    refine lv_aload_n hx hb dX3_reckonPart_63 rfl (lv_at hl 4 rfl) ?_
    refine lv_iload_n hx hb dX3_reckonPart_64 rfl (lv_at hl 1 rfl) ?_
    obtain ⟨hi6, h⟩ := gi_inv h
    refine va_iald hx hb hK hP 8 0 rfl rfl hi6 dX3_reckonPart_65 ?_
    refine lv_i2l hx hb dX3_reckonPart_66 rfl ?_
    have hP9 := hP
    have hD9 := hD
    have hS9 := hS
    subst hQ
    cases h
    exact W.lret hx hb hr (fun t ht hW => ⟨⟨_, (), rfl, rfl, by rw [ht]; exact hP9, va_K.moved hW.alike hK, hD9⟩, hS9.F ht⟩) hS9.2.2 dX3_reckonPart_67
  replace h := sf_f c5 h
  rcases Decidable.em ((Fkinds v1.toNatClampNeg) = 2) with c7 | c7
  · replace h := sf_t c7 h
    refine lv_tableIn (off := 47) (tgt := 68) hx hb dX3_reckonPart_21 (by rw [c7]; decide) (by rw [c7]; decide) (by rw [c7]; rfl) (by decide) ?_
    refine lv_aload_n hx hb dX3_reckonPart_68 rfl (lv_at hl 2 rfl) ?_
    refine va_get (D := D) (ci := 3) (v := .ref (aF 5)) (C := RX3) (T := TX3) (N := 9) hx hb hts iX3 hown hK hP 0 rfl rfl 4 (by decide) f24 (fun _ h9 => h9) rfl dX3_reckonPart_69 ?_
    refine lv_iload_n hx hb dX3_reckonPart_72 rfl (lv_at hl 1 rfl) ?_
    obtain ⟨hi8, h⟩ := gi_inv h
    refine va_lald hx hb hK hP 5 1 rfl rfl hi8 dX3_reckonPart_73 ?_
    refine lv_lneg hx hb dX3_reckonPart_74 ?_
    have hP9 := hP
    have hD9 := hD
    have hS9 := hS
    subst hQ
    cases h
    exact W.lret hx hb hr (fun t ht hW => ⟨⟨_, (), rfl, rfl, by rw [ht]; exact hP9, va_K.moved hW.alike hK, hD9⟩, hS9.F ht⟩) hS9.2.2 dX3_reckonPart_75
  replace h := sf_f c7 h
  rcases Decidable.em ((Fkinds v1.toNatClampNeg) = 3) with c9 | c9
  · replace h := sf_t c9 h
    refine lv_tableIn (off := 55) (tgt := 76) hx hb dX3_reckonPart_21 (by rw [c9]; decide) (by rw [c9]; decide) (by rw [c9]; rfl) (by decide) ?_
    refine lv_aload_n hx hb dX3_reckonPart_76 rfl (lv_at hl 2 rfl) ?_
    refine va_get (D := D) (ci := 3) (v := .ref (aF 5)) (C := RX3) (T := TX3) (N := 9) hx hb hts iX3 hown hK hP 0 rfl rfl 4 (by decide) f24 (fun _ h9 => h9) rfl dX3_reckonPart_77 ?_
    refine lv_iload_n hx hb dX3_reckonPart_80 rfl (lv_at hl 1 rfl) ?_
    obtain ⟨hi10, h⟩ := gi_inv h
    refine va_lald hx hb hK hP 5 1 rfl rfl hi10 dX3_reckonPart_81 ?_
    refine lv_aload_n hx hb dX3_reckonPart_82 rfl (lv_at hl 2 rfl) ?_
    refine va_get (D := D) (ci := 3) (v := .ref (aF 5)) (C := RX3) (T := TX3) (N := 9) hx hb hts iX3 hown hK hP 0 rfl rfl 4 (by decide) f24 (fun _ h9 => h9) rfl dX3_reckonPart_83 ?_
    refine lv_iload hx hb dX3_reckonPart_86 (lv_at hl 0 rfl) ?_
    obtain ⟨hi11, h⟩ := gi_inv h
    refine va_lald hx hb hK hP 5 1 rfl rfl hi11 dX3_reckonPart_88 ?_
    refine lv_ladd hx hb dX3_reckonPart_89 ?_
    have hP9 := hP
    have hD9 := hD
    have hS9 := hS
    subst hQ
    cases h
    exact W.lret hx hb hr (fun t ht hW => ⟨⟨_, (), rfl, rfl, by rw [ht]; exact hP9, va_K.moved hW.alike hK, hD9⟩, hS9.F ht⟩) hS9.2.2 dX3_reckonPart_90
  replace h := sf_f c9 h
  rcases Decidable.em ((Fkinds v1.toNatClampNeg) = 4) with c12 | c12
  · replace h := sf_t c12 h
    refine lv_tableIn (off := 70) (tgt := 91) hx hb dX3_reckonPart_21 (by rw [c12]; decide) (by rw [c12]; decide) (by rw [c12]; rfl) (by decide) ?_
    refine lv_aload_n hx hb dX3_reckonPart_91 rfl (lv_at hl 2 rfl) ?_
    refine va_get (D := D) (ci := 3) (v := .ref (aF 5)) (C := RX3) (T := TX3) (N := 9) hx hb hts iX3 hown hK hP 0 rfl rfl 4 (by decide) f24 (fun _ h9 => h9) rfl dX3_reckonPart_92 ?_
    refine lv_iload_n hx hb dX3_reckonPart_95 rfl (lv_at hl 1 rfl) ?_
    obtain ⟨hi13, h⟩ := gi_inv h
    refine va_lald hx hb hK hP 5 1 rfl rfl hi13 dX3_reckonPart_96 ?_
    refine lv_aload_n hx hb dX3_reckonPart_97 rfl (lv_at hl 2 rfl) ?_
    refine va_get (D := D) (ci := 3) (v := .ref (aF 5)) (C := RX3) (T := TX3) (N := 9) hx hb hts iX3 hown hK hP 0 rfl rfl 4 (by decide) f24 (fun _ h9 => h9) rfl dX3_reckonPart_98 ?_
    refine lv_iload hx hb dX3_reckonPart_101 (lv_at hl 0 rfl) ?_
    obtain ⟨hi14, h⟩ := gi_inv h
    refine va_lald hx hb hK hP 5 1 rfl rfl hi14 dX3_reckonPart_103 ?_
    refine lv_lsub hx hb dX3_reckonPart_104 ?_
    have hP9 := hP
    have hD9 := hD
    have hS9 := hS
    subst hQ
    cases h
    exact W.lret hx hb hr (fun t ht hW => ⟨⟨_, (), rfl, rfl, by rw [ht]; exact hP9, va_K.moved hW.alike hK, hD9⟩, hS9.F ht⟩) hS9.2.2 dX3_reckonPart_105
  replace h := sf_f c12 h
  rcases Decidable.em ((Fkinds v1.toNatClampNeg) = 5) with c15 | c15
  · replace h := sf_t c15 h
    refine lv_tableIn (off := 85) (tgt := 106) hx hb dX3_reckonPart_21 (by rw [c15]; decide) (by rw [c15]; decide) (by rw [c15]; rfl) (by decide) ?_
    refine lv_aload_n hx hb dX3_reckonPart_106 rfl (lv_at hl 2 rfl) ?_
    refine va_get (D := D) (ci := 3) (v := .ref (aF 5)) (C := RX3) (T := TX3) (N := 9) hx hb hts iX3 hown hK hP 0 rfl rfl 4 (by decide) f24 (fun _ h9 => h9) rfl dX3_reckonPart_107 ?_
    refine lv_iload_n hx hb dX3_reckonPart_110 rfl (lv_at hl 1 rfl) ?_
    obtain ⟨hi16, h⟩ := gi_inv h
    refine va_lald hx hb hK hP 5 1 rfl rfl hi16 dX3_reckonPart_111 ?_
    refine lv_aload_n hx hb dX3_reckonPart_112 rfl (lv_at hl 2 rfl) ?_
    refine va_get (D := D) (ci := 3) (v := .ref (aF 5)) (C := RX3) (T := TX3) (N := 9) hx hb hts iX3 hown hK hP 0 rfl rfl 4 (by decide) f24 (fun _ h9 => h9) rfl dX3_reckonPart_113 ?_
    refine lv_iload hx hb dX3_reckonPart_116 (lv_at hl 0 rfl) ?_
    obtain ⟨hi17, h⟩ := gi_inv h
    refine va_lald hx hb hK hP 5 1 rfl rfl hi17 dX3_reckonPart_118 ?_
    refine lv_lmul hx hb dX3_reckonPart_119 ?_
    have hP9 := hP
    have hD9 := hD
    have hS9 := hS
    subst hQ
    cases h
    exact W.lret hx hb hr (fun t ht hW => ⟨⟨_, (), rfl, rfl, by rw [ht]; exact hP9, va_K.moved hW.alike hK, hD9⟩, hS9.F ht⟩) hS9.2.2 dX3_reckonPart_120
  replace h := sf_f c15 h
  refine lv_tableOut (tgt := 121) hx hb dX3_reckonPart_21 (by have z0 := lv_neT (a := 0) c4 rfl; have z1 := lv_neT (a := 1) c5 rfl; have z2 := lv_neT (a := 2) c7 rfl; have z3 := lv_neT (a := 3) c9 rfl; have z4 := lv_neT (a := 4) c12 rfl; have z5 := lv_neT (a := 5) c15 rfl; omega) (by decide) ?_
  refine lv_aload_n hx hb dX3_reckonPart_121 rfl (lv_at hl 2 rfl) ?_
  refine va_get (D := D) (ci := 3) (v := .ref (aF 5)) (C := RX3) (T := TX3) (N := 9) hx hb hts iX3 hown hK hP 0 rfl rfl 4 (by decide) f24 (fun _ h9 => h9) rfl dX3_reckonPart_122 ?_
  refine lv_iload_n hx hb dX3_reckonPart_125 rfl (lv_at hl 1 rfl) ?_
  obtain ⟨hi18, h⟩ := gi_inv h
  refine va_lald hx hb hK hP 5 1 rfl rfl hi18 dX3_reckonPart_126 ?_
  refine lv_iload hx hb dX3_reckonPart_127 (lv_at hl 0 rfl) ?_
  obtain ⟨r19, hc19, h⟩ := bnd1_inv h
  have hPc := hP.sub (ws' := ([] : va_W)) [] rfl
  have hDc := hD.sub (ws' := ([] : va_W)) [] rfl rfl
  have hFc := va_free (wc := ([] : va_W)) hD hS hA [] rfl
  refine xc_l (va_runS (As := [.long (Fvalues (Flefts v1.toNatClampNeg).toNatClampNeg), .int (Frights v1.toNatClampNeg)]) (rest := []) ⟨hx, hb, hml, hown, hts⟩ (met_X3_power l D k  H.size (Fvalues (Flefts v1.toNatClampNeg).toNatClampNeg) (Frights v1.toNatClampNeg) r19 hc19) (va_cwS 2 hts gX3_reckonPart_X3_power rfl rfl rfl (by decide +kernel) ⟨Nat.le_of_ble_eq_true rfl, Nat.le_of_ble_eq_true rfl⟩) ⟨pw_blind, pw_start hPc hK hDc⟩ rfl rfl hl.1 rfl (lv_room (Nat.le_of_ble_eq_true rfl)) dX3_reckonPart_129 ⟨Nat.zero_le _, Nat.zero_le _⟩) hS hFc (fun H1 locs hP1 hD1 hk1 hS => ?_)
  obtain ⟨hP, hD⟩ := vj (ws' := ((wF k aF Fkinds Flefts Frights Fplaces Fvalues Fslopes Fexponents Fsize Froot) ++ ([(qu, .inl (k 0, 6, .inl uA))]))) (w1 := ([] : va_W)) hP hD [] [0, 1, 2, 3, 4, 5, 6, 7, 8] [0, 1, 2, 3, 4, 5, 6, 7, 8] rfl rfl rfl rfl rfl hk1 hFc hP1 hD1
  clear hP1 hD1 hk1 hFc
  generalize H1 = H at hP hS ⊢
  have hP9 := hP
  have hD9 := hD
  have hS9 := hS
  subst hQ
  cases h
  exact W.lret hx hb hr (fun t ht hW => ⟨⟨_, (), rfl, rfl, by rw [ht]; exact hP9, va_K.moved hW.alike hK, hD9⟩, hS9.F ht⟩) hS9.2.2 dX3_reckonPart_132
def LX3_reckonBy_2 (Fkinds : Nat → Int32) (Flefts : Nat → Int32) (Frights : Nat → Int32) (Fsize : Int32) (Froot : Int32) (uA : Nat → Int32) (E28 : (Nat → Int64) → Option (Int64 × (Nat → Int64))) : Nat → Int32 → (Nat → Int64) → Option (Int64 × (Nat → Int64))
  | 0, _, _ => none
  | fuel + 1, v2, Fvalues => (if Fsize ≤ v2 then E28 Fvalues else bnd1 (fX3_reckonPart v2 Fkinds Flefts Frights Fvalues uA) (fun r2 => gi v2 60 (LX3_reckonBy_2 Fkinds Flefts Frights Fsize Froot uA E28 fuel (v2 + 1) (vp_updL Fvalues (v2.toNatClampNeg) r2))))
def fX3_reckonBy (Fkinds : Nat → Int32) (Flefts : Nat → Int32) (Frights : Nat → Int32) (Fvalues : Nat → Int64) (Fsize : Int32) (Froot : Int32) (uA : Nat → Int32) : Option (Int64 × (Nat → Int64)) := LX3_reckonBy_2 Fkinds Flefts Frights Fsize Froot uA (fun (Fvalues : Nat → Int64) => gi Froot 60 (some (Fvalues Froot.toNatClampNeg, Fvalues))) 1000 0 Fvalues
abbrev rmX3_reckonBy : Room := { frames := 2, cells := 0, slots := 0, locals := 49 }
set_option maxHeartbeats 4000000 in
set_option maxRecDepth 100000 in
theorem met_X3_reckonBy (l : Launch) (D : va_G) (k : Nat → ClassId)  (aF : Nat → Nat) (qu : Nat) (sz : Nat) (Fkinds : Nat → Int32) (Flefts : Nat → Int32) (Frights : Nat → Int32) (Fplaces : Nat → Int32) (Fvalues : Nat → Int64) (Fslopes : Nat → Int64) (Fexponents : Nat → Int32) (Fsize : Int32) (Froot : Int32) (uA : Nat → Int32)  (r : Int64) (RFvalues : Nat → Int64) (h : fX3_reckonBy Fkinds Flefts Frights Fvalues Fsize Froot uA = some (r, RFvalues)) : Met l yX3_reckonBy wsX3_reckonBy rmX3_reckonBy (va_Pc [.ref (aF 0), .ref qu] (PreW D k ((wF k aF Fkinds Flefts Frights Fplaces Fvalues Fslopes Fexponents Fsize Froot) ++ ([(qu, .inl (k 0, 6, .inl uA))])) sz)) (va_Ql (fun r9 (_ : Unit) => r9 = r) (fun _ t => PostW D k (va_A ((wF k aF Fkinds Flefts Frights Fplaces Fvalues Fslopes Fexponents Fsize Froot) ++ ([(qu, .inl (k 0, 6, .inl uA))])) sz) ((wF k aF Fkinds Flefts Frights Fplaces RFvalues Fslopes Fexponents Fsize Froot) ++ ([(qu, .inl (k 0, 6, .inl uA))])) t) (va_A ((wF k aF Fkinds Flefts Frights Fplaces Fvalues Fslopes Fexponents Fsize Froot) ++ ([(qu, .inl (k 0, 6, .inl uA))])) sz)) 0 0 (va_A ((wF k aF Fkinds Flefts Frights Fplaces Fvalues Fslopes Fexponents Fsize Froot) ++ ([(qu, .inl (k 0, 6, .inl uA))])) sz) := by
  refine Met.ofW (cc := cX3_reckonBy) (maxL := 3) (ret := (some .long)) (by decide) rfl ?_
  intro p e s m args below meth c s₁ B hml hv
  obtain ⟨hav, hsz, hP, hK, hD0⟩ := hv
  have hx := B.exec
  have hb := B.bytes
  have hr := B.returns
  have hts := atoms_spec (ws := wsX3_reckonBy) B.pre
  have hown : s.vm.findClass RX3 = some m.cls := findClass_of_methodNamed B.named
  have hlocks := B.notSynchronized
  subst hsz
  have hD := hD0.self (sz := s.heap.size)
  clear hD0
  generalize hAe : va_A ((wF k aF Fkinds Flefts Frights Fplaces Fvalues Fslopes Fexponents Fsize Froot) ++ ([(qu, .inl (k 0, 6, .inl uA))])) s.heap.size = A at hD ⊢
  have hA : ∀ q : Nat, s.heap.size ≤ q → A q := fun q h => by rw [← hAe]; exact Or.inr h
  have hS : va_S A s.heap s.heap [] := va_S.rf
  have hl := lv_entry ([.ref (aF 0), .ref qu]) (n := 3) (Nat.le_of_ble_eq_true rfl)
  rw [show entryFrame m args 3 = entryFrame m ([.ref (aF 0), .ref qu] : List Value).toArray 3 from by rw [hav], lg_entry_eq]
  generalize (lg_sl ([.ref (aF 0), .ref qu]) ++ List.replicate (3 - (lg_sl ([.ref (aF 0), .ref qu])).length) Slot.unset).toArray = ls at hl ⊢
  replace hl : lv_has ls 3 [(0, .ref (aF 0)), (1, .ref qu)] := hl
  have f24 := hts (.fieldLink RX3 24 "UncertainBook$Formula" "values" "[J") (by decide +kernel)
  have f34 := hts (.fieldLink RX3 34 "UncertainBook$Formula" "size" "I") (by decide +kernel)
  have f38 := hts (.fieldLink RX3 38 "UncertainBook$Formula" "root" "I") (by decide +kernel)
  have iX3 : ∀ w ∈ u_ws RX3 TX3 9, w ∈ wsX3_reckonBy := by decide +kernel
  refine w_q (fun Q hQ => ?_)
  unfold fX3_reckonBy at h
  show W p l e rmX3_reckonBy s m args below meth c s.heap [] 0 0 Q (F0 m 0 ls [])
  have LH_2 : ∀ (E28 : (Nat → Int64) → Option (Int64 × (Nat → Int64))) (hE28 : ∀ (Fvalues : Nat → Int64), E28 Fvalues = some (r, RFvalues) → ∀ (H : Heap) (locs : List Loc) (ls : Array Slot), va_P D vwCl ((wF k aF Fkinds Flefts Frights Fplaces Fvalues Fslopes Fexponents Fsize Froot) ++ ([(qu, .inl (k 0, 6, .inl uA))])) H → va_D A ((wF k aF Fkinds Flefts Frights Fplaces Fvalues Fslopes Fexponents Fsize Froot) ++ ([(qu, .inl (k 0, 6, .inl uA))])) → va_S A s.heap H locs → lv_has ls 3 [(0, .ref (aF 0))] → W p l e rmX3_reckonBy s m args below meth c H locs 0 0 Q (F0 m 28 ls [])) (n : Nat) (v2 : Int32) (Fvalues : Nat → Int64), LX3_reckonBy_2 Fkinds Flefts Frights Fsize Froot uA E28 n v2 Fvalues = some (r, RFvalues) → ∀ (H : Heap) (locs : List Loc) (ls : Array Slot), va_P D vwCl ((wF k aF Fkinds Flefts Frights Fplaces Fvalues Fslopes Fexponents Fsize Froot) ++ ([(qu, .inl (k 0, 6, .inl uA))])) H → va_D A ((wF k aF Fkinds Flefts Frights Fplaces Fvalues Fslopes Fexponents Fsize Froot) ++ ([(qu, .inl (k 0, 6, .inl uA))])) → va_S A s.heap H locs → lv_has ls 3 [(0, .ref (aF 0)), (1, .ref qu), (2, .int v2)] → W p l e rmX3_reckonBy s m args below meth c H locs 0 0 Q (F0 m 2 ls []) := by
    intro E28 hE28 n
    induction n with
    | zero => intro v2 Fvalues h; simp [LX3_reckonBy_2] at h
    | succ n ih =>
    intro v2 Fvalues h H locs ls hP hD hS hl
    rw [LX3_reckonBy_2] at h
    refine lv_iload_n hx hb dX3_reckonBy_2 rfl (lv_at hl 2 rfl) ?_
    refine lv_aload_n hx hb dX3_reckonBy_3 rfl (lv_at hl 0 rfl) ?_
    refine va_get (D := D) (ci := 3) (v := .int Fsize) (C := RX3) (T := TX3) (N := 9) hx hb hts iX3 hown hK hP 0 rfl rfl 7 (by decide) f34 (fun _ h9 => h9) rfl dX3_reckonBy_4 ?_
    refine lv_icmp_ge (tgt := 28) hx hb dX3_reckonBy_7 (by decide) (fun c1 => ?_) (fun c1 => ?_)
    · replace h := sf_t c1 h
      exact hE28 _ h _ _ _ hP hD hS (lv_sub hl [0] rfl)
    · replace h := sf_f c1 h
      refine lv_aload_n hx hb dX3_reckonBy_10 rfl (lv_at hl 0 rfl) ?_
      refine va_get (D := D) (ci := 3) (v := .ref (aF 5)) (C := RX3) (T := TX3) (N := 9) hx hb hts iX3 hown hK hP 0 rfl rfl 4 (by decide) f24 (fun _ h9 => h9) rfl dX3_reckonBy_11 ?_
      refine lv_iload_n hx hb dX3_reckonBy_14 rfl (lv_at hl 2 rfl) ?_
      refine lv_aload_n hx hb dX3_reckonBy_15 rfl (lv_at hl 0 rfl) ?_
      refine lv_iload_n hx hb dX3_reckonBy_16 rfl (lv_at hl 2 rfl) ?_
      refine lv_aload_n hx hb dX3_reckonBy_17 rfl (lv_at hl 1 rfl) ?_
      obtain ⟨r2, hc2, h⟩ := bnd1_inv h
      have hFc := va_free (wc := ((wF k aF Fkinds Flefts Frights Fplaces Fvalues Fslopes Fexponents Fsize Froot) ++ ([(qu, .inl (k 0, 6, .inl uA))]))) hD hS hA [0, 1, 2, 3, 4, 5, 6, 7, 8] rfl
      refine xc_l (va_runV (As := [.int v2, .ref qu]) (rest := [.int v2, .ref (aF 5)]) ⟨hx, hb, hml, hown, hts⟩ (met_X3_reckonPart l D k  aF qu H.size Fkinds Flefts Frights Fplaces Fvalues Fslopes Fexponents Fsize Froot uA v2 r2 hc2) (cwV 2 hts gX3_reckonBy_X3_reckonPart rfl rfl rfl (by decide +kernel) ⟨Nat.le_of_ble_eq_true rfl, Nat.le_of_ble_eq_true rfl⟩) ⟨pw_blind, va_recv hK hP (ci := 3) (q0 := 0) rfl rfl, pw_start hP hK hD⟩ rfl rfl hl.1 rfl (lv_room (Nat.le_of_ble_eq_true rfl)) dX3_reckonBy_18 ⟨Nat.zero_le _, Nat.zero_le _⟩) hS hFc (fun H1 locs hP1 hD1 hk1 hS => ?_)
      obtain ⟨hP, hD⟩ := vj_all hFc hP1 hD1
      clear hP1 hD1 hk1 hFc
      generalize H1 = H at hP hS ⊢
      obtain ⟨hi3, h⟩ := gi_inv h
      refine va_last hx hb hK hP hD hS 5 1 rfl rfl hi3 dX3_reckonBy_21 (fun H locs hP hD hS => ?_)
      replace hP : va_P D vwCl ((wF k aF Fkinds Flefts Frights Fplaces (vp_updL Fvalues (v2.toNatClampNeg) r2) Fslopes Fexponents Fsize Froot) ++ ([(qu, .inl (k 0, 6, .inl uA))])) H := hP
      replace hD : va_D A ((wF k aF Fkinds Flefts Frights Fplaces (vp_updL Fvalues (v2.toNatClampNeg) r2) Fslopes Fexponents Fsize Froot) ++ ([(qu, .inl (k 0, 6, .inl uA))])) := hD
      refine lv_iinc (v := v2 + 1) (lv' := [(2, .int (v2 + 1)), (0, .ref (aF 0)), (1, .ref qu)]) hx hb dX3_reckonBy_22 hl (k := 2) rfl rfl (by decide) rfl (fun ls hl => ?_)
      refine lv_goto (tgt := 2) hx hb dX3_reckonBy_25 (by decide) ?_
      exact ih _ _ h _ _ _ hP hD hS (lv_sub hl [1, 2, 0] rfl)
  suffices main : ∀ (H : Heap) (locs : List Loc) (ls : Array Slot), va_P D vwCl ((wF k aF Fkinds Flefts Frights Fplaces Fvalues Fslopes Fexponents Fsize Froot) ++ ([(qu, .inl (k 0, 6, .inl uA))])) H → va_D A ((wF k aF Fkinds Flefts Frights Fplaces Fvalues Fslopes Fexponents Fsize Froot) ++ ([(qu, .inl (k 0, 6, .inl uA))])) → va_S A s.heap H locs → lv_has ls 3 [(0, .ref (aF 0)), (1, .ref qu)] → W p l e rmX3_reckonBy s m args below meth c H locs 0 0 Q (F0 m 0 ls []) from main _ _ _ hP hD hS hl
  clear hP hD hS hl ls hAe
  intro H locs ls hP hD hS hl
  refine lv_iconst (v := 0) hx hb dX3_reckonBy_0 (by decide) ?_
  refine lv_istore_n (lv' := [(2, .int 0), (0, .ref (aF 0)), (1, .ref qu)]) hx hb dX3_reckonBy_1 rfl hl (by decide) rfl (fun ls hl => ?_)
  refine LH_2 _ (fun Fvalues h H locs ls hP hD hS hl => ?_) _ _ _ h _ _ _ hP hD hS (lv_sub hl [1, 2, 0] rfl)
  · skip
    refine lv_aload_n hx hb dX3_reckonBy_28 rfl (lv_at hl 0 rfl) ?_
    refine va_get (D := D) (ci := 3) (v := .ref (aF 5)) (C := RX3) (T := TX3) (N := 9) hx hb hts iX3 hown hK hP 0 rfl rfl 4 (by decide) f24 (fun _ h9 => h9) rfl dX3_reckonBy_29 ?_
    refine lv_aload_n hx hb dX3_reckonBy_32 rfl (lv_at hl 0 rfl) ?_
    refine va_get (D := D) (ci := 3) (v := .int Froot) (C := RX3) (T := TX3) (N := 9) hx hb hts iX3 hown hK hP 0 rfl rfl 8 (by decide) f38 (fun _ h9 => h9) rfl dX3_reckonBy_33 ?_
    obtain ⟨hi4, h⟩ := gi_inv h
    refine va_lald hx hb hK hP 5 1 rfl rfl hi4 dX3_reckonBy_36 ?_
    have hP9 := hP
    have hD9 := hD
    have hS9 := hS
    subst hQ
    cases h
    exact W.lret hx hb hr (fun t ht hW => ⟨⟨_, (), rfl, rfl, by rw [ht]; exact hP9, va_K.moved hW.alike hK, hD9⟩, hS9.F ht⟩) hS9.2.2 dX3_reckonBy_37
def fX3_powerSlope (v1 : Int32) (Flefts : Nat → Int32) (Frights : Nat → Int32) (Fvalues : Nat → Int64) : Option (Int64) := gi v1 60 ((if (Frights v1.toNatClampNeg) = 0 then some (0) else gi v1 60 (gi (Flefts v1.toNatClampNeg) 60 (bnd1 (fX3_power (Fvalues (Flefts v1.toNatClampNeg).toNatClampNeg) ((Frights v1.toNatClampNeg) - 1)) (fun r5 => some (((Frights v1.toNatClampNeg).toInt64) * r5))))))
abbrev rmX3_powerSlope : Room := { frames := 1, cells := 0, slots := 0, locals := 25 }
set_option maxHeartbeats 4000000 in
set_option maxRecDepth 100000 in
theorem met_X3_powerSlope (l : Launch) (D : va_G) (k : Nat → ClassId)  (aF : Nat → Nat) (sz : Nat) (Fkinds : Nat → Int32) (Flefts : Nat → Int32) (Frights : Nat → Int32) (Fplaces : Nat → Int32) (Fvalues : Nat → Int64) (Fslopes : Nat → Int64) (Fexponents : Nat → Int32) (Fsize : Int32) (Froot : Int32) (v1 : Int32) (r : Int64) (h : fX3_powerSlope v1 Flefts Frights Fvalues = some r) : Met l yX3_powerSlope wsX3_powerSlope rmX3_powerSlope (va_Pc [.ref (aF 0), .int v1] (PreW D k (wF k aF Fkinds Flefts Frights Fplaces Fvalues Fslopes Fexponents Fsize Froot) sz)) (va_Ql (fun r9 (_ : Unit) => r9 = r) (fun _ t => PostW D k (va_A (wF k aF Fkinds Flefts Frights Fplaces Fvalues Fslopes Fexponents Fsize Froot) sz) (wF k aF Fkinds Flefts Frights Fplaces Fvalues Fslopes Fexponents Fsize Froot) t) (va_A (wF k aF Fkinds Flefts Frights Fplaces Fvalues Fslopes Fexponents Fsize Froot) sz)) 0 0 (va_A (wF k aF Fkinds Flefts Frights Fplaces Fvalues Fslopes Fexponents Fsize Froot) sz) := by
  refine Met.ofW (cc := cX3_powerSlope) (maxL := 3) (ret := (some .long)) (by decide) rfl ?_
  intro p e s m args below meth c s₁ B hml hv
  obtain ⟨hav, hsz, hP, hK, hD0⟩ := hv
  have hx := B.exec
  have hb := B.bytes
  have hr := B.returns
  have hts := atoms_spec (ws := wsX3_powerSlope) B.pre
  have hown : s.vm.findClass RX3 = some m.cls := findClass_of_methodNamed B.named
  have hlocks := B.notSynchronized
  subst hsz
  have hD := hD0.self (sz := s.heap.size)
  clear hD0
  generalize hAe : va_A (wF k aF Fkinds Flefts Frights Fplaces Fvalues Fslopes Fexponents Fsize Froot) s.heap.size = A at hD ⊢
  have hA : ∀ q : Nat, s.heap.size ≤ q → A q := fun q h => by rw [← hAe]; exact Or.inr h
  have hS : va_S A s.heap s.heap [] := va_S.rf
  have hl := lv_entry ([.ref (aF 0), .int v1]) (n := 3) (Nat.le_of_ble_eq_true rfl)
  rw [show entryFrame m args 3 = entryFrame m ([.ref (aF 0), .int v1] : List Value).toArray 3 from by rw [hav], lg_entry_eq]
  generalize (lg_sl ([.ref (aF 0), .int v1]) ++ List.replicate (3 - (lg_sl ([.ref (aF 0), .int v1])).length) Slot.unset).toArray = ls at hl ⊢
  replace hl : lv_has ls 3 [(0, .ref (aF 0)), (1, .int v1)] := hl
  have f15 := hts (.fieldLink RX3 15 "UncertainBook$Formula" "lefts" "[I") (by decide +kernel)
  have f18 := hts (.fieldLink RX3 18 "UncertainBook$Formula" "rights" "[I") (by decide +kernel)
  have f24 := hts (.fieldLink RX3 24 "UncertainBook$Formula" "values" "[J") (by decide +kernel)
  have iX3 : ∀ w ∈ u_ws RX3 TX3 9, w ∈ wsX3_powerSlope := by decide +kernel
  refine w_q (fun Q hQ => ?_)
  unfold fX3_powerSlope at h
  show W p l e rmX3_powerSlope s m args below meth c s.heap [] 0 0 Q (F0 m 0 ls [])
  suffices main : ∀ (H : Heap) (locs : List Loc) (ls : Array Slot), va_P D vwCl (wF k aF Fkinds Flefts Frights Fplaces Fvalues Fslopes Fexponents Fsize Froot) H → va_D A (wF k aF Fkinds Flefts Frights Fplaces Fvalues Fslopes Fexponents Fsize Froot) → va_S A s.heap H locs → lv_has ls 3 [(0, .ref (aF 0)), (1, .int v1)] → W p l e rmX3_powerSlope s m args below meth c H locs 0 0 Q (F0 m 0 ls []) from main _ _ _ hP hD hS hl
  clear hP hD hS hl ls hAe
  intro H locs ls hP hD hS hl
  refine lv_aload_n hx hb dX3_powerSlope_0 rfl (lv_at hl 0 rfl) ?_
  refine va_get (D := D) (ci := 3) (v := .ref (aF 3)) (C := RX3) (T := TX3) (N := 9) hx hb hts iX3 hown hK hP 0 rfl rfl 2 (by decide) f18 (fun _ h9 => h9) rfl dX3_powerSlope_1 ?_
  refine lv_iload_n hx hb dX3_powerSlope_4 rfl (lv_at hl 1 rfl) ?_
  obtain ⟨hi1, h⟩ := gi_inv h
  refine va_iald hx hb hK hP 3 0 rfl rfl hi1 dX3_powerSlope_5 ?_
  refine lv_istore_n (lv' := [(2, .int (Frights v1.toNatClampNeg)), (0, .ref (aF 0)), (1, .int v1)]) hx hb dX3_powerSlope_6 rfl hl (by decide) rfl (fun ls hl => ?_)
  refine lv_iload_n hx hb dX3_powerSlope_7 rfl (lv_at hl 0 rfl) ?_
  refine lv_if_ne (tgt := 15) hx hb dX3_powerSlope_8 (by decide) (fun c2 => ?_) (fun c2 => ?_)
  · replace h := sf_f c2 h
    refine lv_iload_n hx hb dX3_powerSlope_15 rfl (lv_at hl 0 rfl) ?_
    refine lv_i2l hx hb dX3_powerSlope_16 rfl ?_
    refine lv_aload_n hx hb dX3_powerSlope_17 rfl (lv_at hl 1 rfl) ?_
    refine va_get (D := D) (ci := 3) (v := .ref (aF 5)) (C := RX3) (T := TX3) (N := 9) hx hb hts iX3 hown hK hP 0 rfl rfl 4 (by decide) f24 (fun _ h9 => h9) rfl dX3_powerSlope_18 ?_
    refine lv_aload_n hx hb dX3_powerSlope_21 rfl (lv_at hl 1 rfl) ?_
    refine va_get (D := D) (ci := 3) (v := .ref (aF 2)) (C := RX3) (T := TX3) (N := 9) hx hb hts iX3 hown hK hP 0 rfl rfl 1 (by decide) f15 (fun _ h9 => h9) rfl dX3_powerSlope_22 ?_
    refine lv_iload_n hx hb dX3_powerSlope_25 rfl (lv_at hl 2 rfl) ?_
    obtain ⟨hi3, h⟩ := gi_inv h
    refine va_iald hx hb hK hP 2 0 rfl rfl hi3 dX3_powerSlope_26 ?_
    obtain ⟨hi4, h⟩ := gi_inv h
    refine va_lald hx hb hK hP 5 1 rfl rfl hi4 dX3_powerSlope_27 ?_
    refine lv_iload_n hx hb dX3_powerSlope_28 rfl (lv_at hl 0 rfl) ?_
    refine lv_iconst (v := 1) hx hb dX3_powerSlope_29 (by decide) ?_
    refine lv_isub hx hb dX3_powerSlope_30 ?_
    obtain ⟨r5, hc5, h⟩ := bnd1_inv h
    have hPc := hP.sub (ws' := ([] : va_W)) [] rfl
    have hDc := hD.sub (ws' := ([] : va_W)) [] rfl rfl
    have hFc := va_free (wc := ([] : va_W)) hD hS hA [] rfl
    refine xc_l (va_runS (As := [.long (Fvalues (Flefts v1.toNatClampNeg).toNatClampNeg), .int ((Frights v1.toNatClampNeg) - 1)]) (rest := [.long ((Frights v1.toNatClampNeg).toInt64)]) ⟨hx, hb, hml, hown, hts⟩ (met_X3_power l D k  H.size (Fvalues (Flefts v1.toNatClampNeg).toNatClampNeg) ((Frights v1.toNatClampNeg) - 1) r5 hc5) (va_cwS 2 hts gX3_powerSlope_X3_power rfl rfl rfl (by decide +kernel) ⟨Nat.le_of_ble_eq_true rfl, Nat.le_of_ble_eq_true rfl⟩) ⟨pw_blind, pw_start hPc hK hDc⟩ rfl rfl hl.1 rfl (lv_room (Nat.le_of_ble_eq_true rfl)) dX3_powerSlope_31 ⟨Nat.zero_le _, Nat.zero_le _⟩) hS hFc (fun H1 locs hP1 hD1 hk1 hS => ?_)
    obtain ⟨hP, hD⟩ := vj (ws' := (wF k aF Fkinds Flefts Frights Fplaces Fvalues Fslopes Fexponents Fsize Froot)) (w1 := ([] : va_W)) hP hD [] [0, 1, 2, 3, 4, 5, 6, 7] [0, 1, 2, 3, 4, 5, 6, 7] rfl rfl rfl rfl rfl hk1 hFc hP1 hD1
    clear hP1 hD1 hk1 hFc
    generalize H1 = H at hP hS ⊢
    refine lv_lmul hx hb dX3_powerSlope_34 ?_
    have hP9 := hP
    have hD9 := hD
    have hS9 := hS
    subst hQ
    cases h
    exact W.lret hx hb hr (fun t ht hW => ⟨⟨_, (), rfl, rfl, by rw [ht]; exact hP9, va_K.moved hW.alike hK, hD9⟩, hS9.F ht⟩) hS9.2.2 dX3_powerSlope_35
  · replace h := sf_t c2 h
    refine lv_lconst (v := 0) hx hb dX3_powerSlope_11 (by decide) ?_
    refine lv_goto (tgt := 35) hx hb dX3_powerSlope_12 (by decide) ?_
    have hP9 := hP
    have hD9 := hD
    have hS9 := hS
    subst hQ
    cases h
    exact W.lret hx hb hr (fun t ht hW => ⟨⟨_, (), rfl, rfl, by rw [ht]; exact hP9, va_K.moved hW.alike hK, hD9⟩, hS9.F ht⟩) hS9.2.2 dX3_powerSlope_35
def fX3_slopeOfPart (v1 : Int32) (v2 : Int32) (Fkinds : Nat → Int32) (Flefts : Nat → Int32) (Frights : Nat → Int32) (Fvalues : Nat → Int64) (Fslopes : Nat → Int64) : Option (Int64) := gi v1 60 (gi v1 60 (gi v1 60 ((if (Fkinds v1.toNatClampNeg) = 0 then some (0) else if (Fkinds v1.toNatClampNeg) = 1 then (if (Flefts v1.toNatClampNeg) = v2 then some (1) else some (0)) else if (Fkinds v1.toNatClampNeg) = 2 then gi (Flefts v1.toNatClampNeg) 60 (some (-(Fslopes (Flefts v1.toNatClampNeg).toNatClampNeg))) else if (Fkinds v1.toNatClampNeg) = 3 then gi (Flefts v1.toNatClampNeg) 60 (gi (Frights v1.toNatClampNeg) 60 (some ((Fslopes (Flefts v1.toNatClampNeg).toNatClampNeg) + (Fslopes (Frights v1.toNatClampNeg).toNatClampNeg)))) else if (Fkinds v1.toNatClampNeg) = 4 then gi (Flefts v1.toNatClampNeg) 60 (gi (Frights v1.toNatClampNeg) 60 (some ((Fslopes (Flefts v1.toNatClampNeg).toNatClampNeg) - (Fslopes (Frights v1.toNatClampNeg).toNatClampNeg)))) else if (Fkinds v1.toNatClampNeg) = 5 then gi (Flefts v1.toNatClampNeg) 60 (gi (Frights v1.toNatClampNeg) 60 (gi (Flefts v1.toNatClampNeg) 60 (gi (Frights v1.toNatClampNeg) 60 (some (((Fvalues (Flefts v1.toNatClampNeg).toNatClampNeg) * (Fslopes (Frights v1.toNatClampNeg).toNatClampNeg)) + ((Fslopes (Flefts v1.toNatClampNeg).toNatClampNeg) * (Fvalues (Frights v1.toNatClampNeg).toNatClampNeg))))))) else bnd1 (fX3_powerSlope v1 Flefts Frights Fvalues) (fun r20 => gi (Flefts v1.toNatClampNeg) 60 (some (r20 * (Fslopes (Flefts v1.toNatClampNeg).toNatClampNeg))))))))
abbrev rmX3_slopeOfPart : Room := { frames := 2, cells := 0, slots := 0, locals := 47 }
set_option maxHeartbeats 4000000 in
set_option maxRecDepth 100000 in
theorem met_X3_slopeOfPart (l : Launch) (D : va_G) (k : Nat → ClassId)  (aF : Nat → Nat) (sz : Nat) (Fkinds : Nat → Int32) (Flefts : Nat → Int32) (Frights : Nat → Int32) (Fplaces : Nat → Int32) (Fvalues : Nat → Int64) (Fslopes : Nat → Int64) (Fexponents : Nat → Int32) (Fsize : Int32) (Froot : Int32) (v1 : Int32) (v2 : Int32) (r : Int64) (h : fX3_slopeOfPart v1 v2 Fkinds Flefts Frights Fvalues Fslopes = some r) : Met l yX3_slopeOfPart wsX3_slopeOfPart rmX3_slopeOfPart (va_Pc [.ref (aF 0), .int v1, .int v2] (PreW D k (wF k aF Fkinds Flefts Frights Fplaces Fvalues Fslopes Fexponents Fsize Froot) sz)) (va_Ql (fun r9 (_ : Unit) => r9 = r) (fun _ t => PostW D k (va_A (wF k aF Fkinds Flefts Frights Fplaces Fvalues Fslopes Fexponents Fsize Froot) sz) (wF k aF Fkinds Flefts Frights Fplaces Fvalues Fslopes Fexponents Fsize Froot) t) (va_A (wF k aF Fkinds Flefts Frights Fplaces Fvalues Fslopes Fexponents Fsize Froot) sz)) 0 0 (va_A (wF k aF Fkinds Flefts Frights Fplaces Fvalues Fslopes Fexponents Fsize Froot) sz) := by
  refine Met.ofW (cc := cX3_slopeOfPart) (maxL := 5) (ret := (some .long)) (by decide) rfl ?_
  intro p e s m args below meth c s₁ B hml hv
  obtain ⟨hav, hsz, hP, hK, hD0⟩ := hv
  have hx := B.exec
  have hb := B.bytes
  have hr := B.returns
  have hts := atoms_spec (ws := wsX3_slopeOfPart) B.pre
  have hown : s.vm.findClass RX3 = some m.cls := findClass_of_methodNamed B.named
  have hlocks := B.notSynchronized
  subst hsz
  have hD := hD0.self (sz := s.heap.size)
  clear hD0
  generalize hAe : va_A (wF k aF Fkinds Flefts Frights Fplaces Fvalues Fslopes Fexponents Fsize Froot) s.heap.size = A at hD ⊢
  have hA : ∀ q : Nat, s.heap.size ≤ q → A q := fun q h => by rw [← hAe]; exact Or.inr h
  have hS : va_S A s.heap s.heap [] := va_S.rf
  have hl := lv_entry ([.ref (aF 0), .int v1, .int v2]) (n := 5) (Nat.le_of_ble_eq_true rfl)
  rw [show entryFrame m args 5 = entryFrame m ([.ref (aF 0), .int v1, .int v2] : List Value).toArray 5 from by rw [hav], lg_entry_eq]
  generalize (lg_sl ([.ref (aF 0), .int v1, .int v2]) ++ List.replicate (5 - (lg_sl ([.ref (aF 0), .int v1, .int v2])).length) Slot.unset).toArray = ls at hl ⊢
  replace hl : lv_has ls 5 [(0, .ref (aF 0)), (1, .int v1), (2, .int v2)] := hl
  have f9 := hts (.fieldLink RX3 9 "UncertainBook$Formula" "kinds" "[I") (by decide +kernel)
  have f15 := hts (.fieldLink RX3 15 "UncertainBook$Formula" "lefts" "[I") (by decide +kernel)
  have f18 := hts (.fieldLink RX3 18 "UncertainBook$Formula" "rights" "[I") (by decide +kernel)
  have f24 := hts (.fieldLink RX3 24 "UncertainBook$Formula" "values" "[J") (by decide +kernel)
  have f28 := hts (.fieldLink RX3 28 "UncertainBook$Formula" "slopes" "[J") (by decide +kernel)
  have iX3 : ∀ w ∈ u_ws RX3 TX3 9, w ∈ wsX3_slopeOfPart := by decide +kernel
  refine w_q (fun Q hQ => ?_)
  unfold fX3_slopeOfPart at h
  show W p l e rmX3_slopeOfPart s m args below meth c s.heap [] 0 0 Q (F0 m 0 ls [])
  suffices main : ∀ (H : Heap) (locs : List Loc) (ls : Array Slot), va_P D vwCl (wF k aF Fkinds Flefts Frights Fplaces Fvalues Fslopes Fexponents Fsize Froot) H → va_D A (wF k aF Fkinds Flefts Frights Fplaces Fvalues Fslopes Fexponents Fsize Froot) → va_S A s.heap H locs → lv_has ls 5 [(0, .ref (aF 0)), (1, .int v1), (2, .int v2)] → W p l e rmX3_slopeOfPart s m args below meth c H locs 0 0 Q (F0 m 0 ls []) from main _ _ _ hP hD hS hl
  clear hP hD hS hl ls hAe
  intro H locs ls hP hD hS hl
  refine lv_aload_n hx hb dX3_slopeOfPart_0 rfl (lv_at hl 0 rfl) ?_
  refine va_get (D := D) (ci := 3) (v := .ref (aF 2)) (C := RX3) (T := TX3) (N := 9) hx hb hts iX3 hown hK hP 0 rfl rfl 1 (by decide) f15 (fun _ h9 => h9) rfl dX3_slopeOfPart_1 ?_
  refine lv_iload_n hx hb dX3_slopeOfPart_4 rfl (lv_at hl 1 rfl) ?_
  obtain ⟨hi1, h⟩ := gi_inv h
  refine va_iald hx hb hK hP 2 0 rfl rfl hi1 dX3_slopeOfPart_5 ?_
  refine lv_istore_n (lv' := [(3, .int (Flefts v1.toNatClampNeg)), (0, .ref (aF 0)), (1, .int v1), (2, .int v2)]) hx hb dX3_slopeOfPart_6 rfl hl (by decide) rfl (fun ls hl => ?_)
  refine lv_aload_n hx hb dX3_slopeOfPart_7 rfl (lv_at hl 1 rfl) ?_
  refine va_get (D := D) (ci := 3) (v := .ref (aF 3)) (C := RX3) (T := TX3) (N := 9) hx hb hts iX3 hown hK hP 0 rfl rfl 2 (by decide) f18 (fun _ h9 => h9) rfl dX3_slopeOfPart_8 ?_
  refine lv_iload_n hx hb dX3_slopeOfPart_11 rfl (lv_at hl 2 rfl) ?_
  obtain ⟨hi2, h⟩ := gi_inv h
  refine va_iald hx hb hK hP 3 0 rfl rfl hi2 dX3_slopeOfPart_12 ?_
  refine lv_istore (lv' := [(4, .int (Frights v1.toNatClampNeg)), (3, .int (Flefts v1.toNatClampNeg)), (0, .ref (aF 0)), (1, .int v1), (2, .int v2)]) hx hb dX3_slopeOfPart_13 hl (by decide) rfl (fun ls hl => ?_)
  refine lv_aload_n hx hb dX3_slopeOfPart_15 rfl (lv_at hl 2 rfl) ?_
  refine va_get (D := D) (ci := 3) (v := .ref (aF 1)) (C := RX3) (T := TX3) (N := 9) hx hb hts iX3 hown hK hP 0 rfl rfl 0 (by decide) f9 (fun _ h9 => h9) rfl dX3_slopeOfPart_16 ?_
  refine lv_iload_n hx hb dX3_slopeOfPart_19 rfl (lv_at hl 3 rfl) ?_
  obtain ⟨hi3, h⟩ := gi_inv h
  refine va_iald hx hb hK hP 1 0 rfl rfl hi3 dX3_slopeOfPart_20 ?_
  rcases Decidable.em ((Fkinds v1.toNatClampNeg) = 0) with c4 | c4
  · replace h := sf_t c4 h
    refine lv_tableIn (off := 39) (tgt := 60) hx hb dX3_slopeOfPart_21 (by rw [c4]; decide) (by rw [c4]; decide) (by rw [c4]; rfl) (by decide) ?_
    refine lv_lconst (v := 0) hx hb dX3_slopeOfPart_60 (by decide) ?_
    have hP9 := hP
    have hD9 := hD
    have hS9 := hS
    subst hQ
    cases h
    exact W.lret hx hb hr (fun t ht hW => ⟨⟨_, (), rfl, rfl, by rw [ht]; exact hP9, va_K.moved hW.alike hK, hD9⟩, hS9.F ht⟩) hS9.2.2 dX3_slopeOfPart_61
  replace h := sf_f c4 h
  rcases Decidable.em ((Fkinds v1.toNatClampNeg) = 1) with c5 | c5
  · replace h := sf_t c5 h
    refine lv_tableIn (off := 41) (tgt := 62) hx hb dX3_slopeOfPart_21 (by rw [c5]; decide) (by rw [c5]; decide) (by rw [c5]; rfl) (by decide) ?_
    refine lv_iload_n hx hb dX3_slopeOfPart_62 rfl (lv_at hl 1 rfl) ?_
    refine lv_iload_n hx hb dX3_slopeOfPart_63 rfl (lv_at hl 4 rfl) ?_
    refine lv_icmp_ne (tgt := 71) hx hb dX3_slopeOfPart_64 (by decide) (fun c6 => ?_) (fun c6 => ?_)
    · replace h := sf_f c6 h
      refine lv_lconst (v := 0) hx hb dX3_slopeOfPart_71 (by decide) ?_
      have hP9 := hP
      have hD9 := hD
      have hS9 := hS
      subst hQ
      cases h
      exact W.lret hx hb hr (fun t ht hW => ⟨⟨_, (), rfl, rfl, by rw [ht]; exact hP9, va_K.moved hW.alike hK, hD9⟩, hS9.F ht⟩) hS9.2.2 dX3_slopeOfPart_72
    · replace h := sf_t c6 h
      refine lv_lconst (v := 1) hx hb dX3_slopeOfPart_67 (by decide) ?_
      refine lv_goto (tgt := 72) hx hb dX3_slopeOfPart_68 (by decide) ?_
      have hP9 := hP
      have hD9 := hD
      have hS9 := hS
      subst hQ
      cases h
      exact W.lret hx hb hr (fun t ht hW => ⟨⟨_, (), rfl, rfl, by rw [ht]; exact hP9, va_K.moved hW.alike hK, hD9⟩, hS9.F ht⟩) hS9.2.2 dX3_slopeOfPart_72
  replace h := sf_f c5 h
  rcases Decidable.em ((Fkinds v1.toNatClampNeg) = 2) with c7 | c7
  · replace h := sf_t c7 h
    refine lv_tableIn (off := 52) (tgt := 73) hx hb dX3_slopeOfPart_21 (by rw [c7]; decide) (by rw [c7]; decide) (by rw [c7]; rfl) (by decide) ?_
    refine lv_aload_n hx hb dX3_slopeOfPart_73 rfl (lv_at hl 2 rfl) ?_
    refine va_get (D := D) (ci := 3) (v := .ref (aF 6)) (C := RX3) (T := TX3) (N := 9) hx hb hts iX3 hown hK hP 0 rfl rfl 5 (by decide) f28 (fun _ h9 => h9) rfl dX3_slopeOfPart_74 ?_
    refine lv_iload_n hx hb dX3_slopeOfPart_77 rfl (lv_at hl 1 rfl) ?_
    obtain ⟨hi8, h⟩ := gi_inv h
    refine va_lald hx hb hK hP 6 1 rfl rfl hi8 dX3_slopeOfPart_78 ?_
    refine lv_lneg hx hb dX3_slopeOfPart_79 ?_
    have hP9 := hP
    have hD9 := hD
    have hS9 := hS
    subst hQ
    cases h
    exact W.lret hx hb hr (fun t ht hW => ⟨⟨_, (), rfl, rfl, by rw [ht]; exact hP9, va_K.moved hW.alike hK, hD9⟩, hS9.F ht⟩) hS9.2.2 dX3_slopeOfPart_80
  replace h := sf_f c7 h
  rcases Decidable.em ((Fkinds v1.toNatClampNeg) = 3) with c9 | c9
  · replace h := sf_t c9 h
    refine lv_tableIn (off := 60) (tgt := 81) hx hb dX3_slopeOfPart_21 (by rw [c9]; decide) (by rw [c9]; decide) (by rw [c9]; rfl) (by decide) ?_
    refine lv_aload_n hx hb dX3_slopeOfPart_81 rfl (lv_at hl 2 rfl) ?_
    refine va_get (D := D) (ci := 3) (v := .ref (aF 6)) (C := RX3) (T := TX3) (N := 9) hx hb hts iX3 hown hK hP 0 rfl rfl 5 (by decide) f28 (fun _ h9 => h9) rfl dX3_slopeOfPart_82 ?_
    refine lv_iload_n hx hb dX3_slopeOfPart_85 rfl (lv_at hl 1 rfl) ?_
    obtain ⟨hi10, h⟩ := gi_inv h
    refine va_lald hx hb hK hP 6 1 rfl rfl hi10 dX3_slopeOfPart_86 ?_
    refine lv_aload_n hx hb dX3_slopeOfPart_87 rfl (lv_at hl 2 rfl) ?_
    refine va_get (D := D) (ci := 3) (v := .ref (aF 6)) (C := RX3) (T := TX3) (N := 9) hx hb hts iX3 hown hK hP 0 rfl rfl 5 (by decide) f28 (fun _ h9 => h9) rfl dX3_slopeOfPart_88 ?_
    refine lv_iload hx hb dX3_slopeOfPart_91 (lv_at hl 0 rfl) ?_
    obtain ⟨hi11, h⟩ := gi_inv h
    refine va_lald hx hb hK hP 6 1 rfl rfl hi11 dX3_slopeOfPart_93 ?_
    refine lv_ladd hx hb dX3_slopeOfPart_94 ?_
    have hP9 := hP
    have hD9 := hD
    have hS9 := hS
    subst hQ
    cases h
    exact W.lret hx hb hr (fun t ht hW => ⟨⟨_, (), rfl, rfl, by rw [ht]; exact hP9, va_K.moved hW.alike hK, hD9⟩, hS9.F ht⟩) hS9.2.2 dX3_slopeOfPart_95
  replace h := sf_f c9 h
  rcases Decidable.em ((Fkinds v1.toNatClampNeg) = 4) with c12 | c12
  · replace h := sf_t c12 h
    refine lv_tableIn (off := 75) (tgt := 96) hx hb dX3_slopeOfPart_21 (by rw [c12]; decide) (by rw [c12]; decide) (by rw [c12]; rfl) (by decide) ?_
    refine lv_aload_n hx hb dX3_slopeOfPart_96 rfl (lv_at hl 2 rfl) ?_
    refine va_get (D := D) (ci := 3) (v := .ref (aF 6)) (C := RX3) (T := TX3) (N := 9) hx hb hts iX3 hown hK hP 0 rfl rfl 5 (by decide) f28 (fun _ h9 => h9) rfl dX3_slopeOfPart_97 ?_
    refine lv_iload_n hx hb dX3_slopeOfPart_100 rfl (lv_at hl 1 rfl) ?_
    obtain ⟨hi13, h⟩ := gi_inv h
    refine va_lald hx hb hK hP 6 1 rfl rfl hi13 dX3_slopeOfPart_101 ?_
    refine lv_aload_n hx hb dX3_slopeOfPart_102 rfl (lv_at hl 2 rfl) ?_
    refine va_get (D := D) (ci := 3) (v := .ref (aF 6)) (C := RX3) (T := TX3) (N := 9) hx hb hts iX3 hown hK hP 0 rfl rfl 5 (by decide) f28 (fun _ h9 => h9) rfl dX3_slopeOfPart_103 ?_
    refine lv_iload hx hb dX3_slopeOfPart_106 (lv_at hl 0 rfl) ?_
    obtain ⟨hi14, h⟩ := gi_inv h
    refine va_lald hx hb hK hP 6 1 rfl rfl hi14 dX3_slopeOfPart_108 ?_
    refine lv_lsub hx hb dX3_slopeOfPart_109 ?_
    have hP9 := hP
    have hD9 := hD
    have hS9 := hS
    subst hQ
    cases h
    exact W.lret hx hb hr (fun t ht hW => ⟨⟨_, (), rfl, rfl, by rw [ht]; exact hP9, va_K.moved hW.alike hK, hD9⟩, hS9.F ht⟩) hS9.2.2 dX3_slopeOfPart_110
  replace h := sf_f c12 h
  rcases Decidable.em ((Fkinds v1.toNatClampNeg) = 5) with c15 | c15
  · replace h := sf_t c15 h
    refine lv_tableIn (off := 90) (tgt := 111) hx hb dX3_slopeOfPart_21 (by rw [c15]; decide) (by rw [c15]; decide) (by rw [c15]; rfl) (by decide) ?_
    refine lv_aload_n hx hb dX3_slopeOfPart_111 rfl (lv_at hl 2 rfl) ?_
    refine va_get (D := D) (ci := 3) (v := .ref (aF 5)) (C := RX3) (T := TX3) (N := 9) hx hb hts iX3 hown hK hP 0 rfl rfl 4 (by decide) f24 (fun _ h9 => h9) rfl dX3_slopeOfPart_112 ?_
    refine lv_iload_n hx hb dX3_slopeOfPart_115 rfl (lv_at hl 1 rfl) ?_
    obtain ⟨hi16, h⟩ := gi_inv h
    refine va_lald hx hb hK hP 5 1 rfl rfl hi16 dX3_slopeOfPart_116 ?_
    refine lv_aload_n hx hb dX3_slopeOfPart_117 rfl (lv_at hl 2 rfl) ?_
    refine va_get (D := D) (ci := 3) (v := .ref (aF 6)) (C := RX3) (T := TX3) (N := 9) hx hb hts iX3 hown hK hP 0 rfl rfl 5 (by decide) f28 (fun _ h9 => h9) rfl dX3_slopeOfPart_118 ?_
    refine lv_iload hx hb dX3_slopeOfPart_121 (lv_at hl 0 rfl) ?_
    obtain ⟨hi17, h⟩ := gi_inv h
    refine va_lald hx hb hK hP 6 1 rfl rfl hi17 dX3_slopeOfPart_123 ?_
    refine lv_lmul hx hb dX3_slopeOfPart_124 ?_
    refine lv_aload_n hx hb dX3_slopeOfPart_125 rfl (lv_at hl 2 rfl) ?_
    refine va_get (D := D) (ci := 3) (v := .ref (aF 6)) (C := RX3) (T := TX3) (N := 9) hx hb hts iX3 hown hK hP 0 rfl rfl 5 (by decide) f28 (fun _ h9 => h9) rfl dX3_slopeOfPart_126 ?_
    refine lv_iload_n hx hb dX3_slopeOfPart_129 rfl (lv_at hl 1 rfl) ?_
    obtain ⟨hi18, h⟩ := gi_inv h
    refine va_lald hx hb hK hP 6 1 rfl rfl hi18 dX3_slopeOfPart_130 ?_
    refine lv_aload_n hx hb dX3_slopeOfPart_131 rfl (lv_at hl 2 rfl) ?_
    refine va_get (D := D) (ci := 3) (v := .ref (aF 5)) (C := RX3) (T := TX3) (N := 9) hx hb hts iX3 hown hK hP 0 rfl rfl 4 (by decide) f24 (fun _ h9 => h9) rfl dX3_slopeOfPart_132 ?_
    refine lv_iload hx hb dX3_slopeOfPart_135 (lv_at hl 0 rfl) ?_
    obtain ⟨hi19, h⟩ := gi_inv h
    refine va_lald hx hb hK hP 5 1 rfl rfl hi19 dX3_slopeOfPart_137 ?_
    refine lv_lmul hx hb dX3_slopeOfPart_138 ?_
    refine lv_ladd hx hb dX3_slopeOfPart_139 ?_
    have hP9 := hP
    have hD9 := hD
    have hS9 := hS
    subst hQ
    cases h
    exact W.lret hx hb hr (fun t ht hW => ⟨⟨_, (), rfl, rfl, by rw [ht]; exact hP9, va_K.moved hW.alike hK, hD9⟩, hS9.F ht⟩) hS9.2.2 dX3_slopeOfPart_140
  replace h := sf_f c15 h
  refine lv_tableOut (tgt := 141) hx hb dX3_slopeOfPart_21 (by have z0 := lv_neT (a := 0) c4 rfl; have z1 := lv_neT (a := 1) c5 rfl; have z2 := lv_neT (a := 2) c7 rfl; have z3 := lv_neT (a := 3) c9 rfl; have z4 := lv_neT (a := 4) c12 rfl; have z5 := lv_neT (a := 5) c15 rfl; omega) (by decide) ?_
  refine lv_aload_n hx hb dX3_slopeOfPart_141 rfl (lv_at hl 2 rfl) ?_
  refine lv_iload_n hx hb dX3_slopeOfPart_142 rfl (lv_at hl 3 rfl) ?_
  obtain ⟨r20, hc20, h⟩ := bnd1_inv h
  have hFc := va_free (wc := (wF k aF Fkinds Flefts Frights Fplaces Fvalues Fslopes Fexponents Fsize Froot)) hD hS hA [0, 1, 2, 3, 4, 5, 6, 7] rfl
  refine xc_l (va_runV (As := [.int v1]) (rest := []) ⟨hx, hb, hml, hown, hts⟩ (met_X3_powerSlope l D k  aF H.size Fkinds Flefts Frights Fplaces Fvalues Fslopes Fexponents Fsize Froot v1 r20 hc20) (cwV 1 hts gX3_slopeOfPart_X3_powerSlope rfl rfl rfl (by decide +kernel) ⟨Nat.le_of_ble_eq_true rfl, Nat.le_of_ble_eq_true rfl⟩) ⟨pw_blind, va_recv hK hP (ci := 3) (q0 := 0) rfl rfl, pw_start hP hK hD⟩ rfl rfl hl.1 rfl (lv_room (Nat.le_of_ble_eq_true rfl)) dX3_slopeOfPart_143 ⟨Nat.zero_le _, Nat.zero_le _⟩) hS hFc (fun H1 locs hP1 hD1 hk1 hS => ?_)
  obtain ⟨hP, hD⟩ := vj_all hFc hP1 hD1
  clear hP1 hD1 hk1 hFc
  generalize H1 = H at hP hS ⊢
  refine lv_aload_n hx hb dX3_slopeOfPart_146 rfl (lv_at hl 2 rfl) ?_
  refine va_get (D := D) (ci := 3) (v := .ref (aF 6)) (C := RX3) (T := TX3) (N := 9) hx hb hts iX3 hown hK hP 0 rfl rfl 5 (by decide) f28 (fun _ h9 => h9) rfl dX3_slopeOfPart_147 ?_
  refine lv_iload_n hx hb dX3_slopeOfPart_150 rfl (lv_at hl 1 rfl) ?_
  obtain ⟨hi21, h⟩ := gi_inv h
  refine va_lald hx hb hK hP 6 1 rfl rfl hi21 dX3_slopeOfPart_151 ?_
  refine lv_lmul hx hb dX3_slopeOfPart_152 ?_
  have hP9 := hP
  have hD9 := hD
  have hS9 := hS
  subst hQ
  cases h
  exact W.lret hx hb hr (fun t ht hW => ⟨⟨_, (), rfl, rfl, by rw [ht]; exact hP9, va_K.moved hW.alike hK, hD9⟩, hS9.F ht⟩) hS9.2.2 dX3_slopeOfPart_153
def LX3_slopeForward_8 (Fkinds : Nat → Int32) (Flefts : Nat → Int32) (Frights : Nat → Int32) (Fsize : Int32) (Froot : Int32) (uA : Nat → Int32) (v2 : Int32) (E34 : (Nat → Int64) → (Nat → Int64) → Option (Int64 × (Nat → Int64) × (Nat → Int64))) : Nat → Int32 → (Nat → Int64) → (Nat → Int64) → Option (Int64 × (Nat → Int64) × (Nat → Int64))
  | 0, _, _, _ => none
  | fuel + 1, v3, Fvalues, Fslopes => (if Fsize ≤ v3 then E34 Fvalues Fslopes else bnd1 (fX3_slopeOfPart v3 v2 Fkinds Flefts Frights Fvalues Fslopes) (fun r3 => gi v3 60 (LX3_slopeForward_8 Fkinds Flefts Frights Fsize Froot uA v2 E34 fuel (v3 + 1) Fvalues (vp_updL Fslopes (v3.toNatClampNeg) r3))))
def fX3_slopeForward (v2 : Int32) (Fkinds : Nat → Int32) (Flefts : Nat → Int32) (Frights : Nat → Int32) (Fvalues : Nat → Int64) (Fslopes : Nat → Int64) (Fsize : Int32) (Froot : Int32) (uA : Nat → Int32) : Option (Int64 × (Nat → Int64) × (Nat → Int64)) := bnd2 (fX3_reckonBy Fkinds Flefts Frights Fvalues Fsize Froot uA) (fun r1 values_1 => LX3_slopeForward_8 Fkinds Flefts Frights Fsize Froot uA v2 (fun (Fvalues : Nat → Int64) (Fslopes : Nat → Int64) => gi Froot 60 (some (Fslopes Froot.toNatClampNeg, Fvalues, Fslopes))) 1000 0 values_1 Fslopes)
abbrev rmX3_slopeForward : Room := { frames := 3, cells := 0, slots := 0, locals := 71 }
set_option maxHeartbeats 4000000 in
set_option maxRecDepth 100000 in
theorem met_X3_slopeForward (l : Launch) (D : va_G) (k : Nat → ClassId)  (aF : Nat → Nat) (qu : Nat) (sz : Nat) (Fkinds : Nat → Int32) (Flefts : Nat → Int32) (Frights : Nat → Int32) (Fplaces : Nat → Int32) (Fvalues : Nat → Int64) (Fslopes : Nat → Int64) (Fexponents : Nat → Int32) (Fsize : Int32) (Froot : Int32) (uA : Nat → Int32) (v2 : Int32) (r : Int64) (RFvalues : Nat → Int64) (RFslopes : Nat → Int64) (h : fX3_slopeForward v2 Fkinds Flefts Frights Fvalues Fslopes Fsize Froot uA = some (r, RFvalues, RFslopes)) : Met l yX3_slopeForward wsX3_slopeForward rmX3_slopeForward (va_Pc [.ref (aF 0), .ref qu, .int v2] (PreW D k ((wF k aF Fkinds Flefts Frights Fplaces Fvalues Fslopes Fexponents Fsize Froot) ++ ([(qu, .inl (k 0, 6, .inl uA))])) sz)) (va_Ql (fun r9 (_ : Unit) => r9 = r) (fun _ t => PostW D k (va_A ((wF k aF Fkinds Flefts Frights Fplaces Fvalues Fslopes Fexponents Fsize Froot) ++ ([(qu, .inl (k 0, 6, .inl uA))])) sz) ((wF k aF Fkinds Flefts Frights Fplaces RFvalues RFslopes Fexponents Fsize Froot) ++ ([(qu, .inl (k 0, 6, .inl uA))])) t) (va_A ((wF k aF Fkinds Flefts Frights Fplaces Fvalues Fslopes Fexponents Fsize Froot) ++ ([(qu, .inl (k 0, 6, .inl uA))])) sz)) 0 0 (va_A ((wF k aF Fkinds Flefts Frights Fplaces Fvalues Fslopes Fexponents Fsize Froot) ++ ([(qu, .inl (k 0, 6, .inl uA))])) sz) := by
  refine Met.ofW (cc := cX3_slopeForward) (maxL := 4) (ret := (some .long)) (by decide) rfl ?_
  intro p e s m args below meth c s₁ B hml hv
  obtain ⟨hav, hsz, hP, hK, hD0⟩ := hv
  have hx := B.exec
  have hb := B.bytes
  have hr := B.returns
  have hts := atoms_spec (ws := wsX3_slopeForward) B.pre
  have hown : s.vm.findClass RX3 = some m.cls := findClass_of_methodNamed B.named
  have hlocks := B.notSynchronized
  subst hsz
  have hD := hD0.self (sz := s.heap.size)
  clear hD0
  generalize hAe : va_A ((wF k aF Fkinds Flefts Frights Fplaces Fvalues Fslopes Fexponents Fsize Froot) ++ ([(qu, .inl (k 0, 6, .inl uA))])) s.heap.size = A at hD ⊢
  have hA : ∀ q : Nat, s.heap.size ≤ q → A q := fun q h => by rw [← hAe]; exact Or.inr h
  have hS : va_S A s.heap s.heap [] := va_S.rf
  have hl := lv_entry ([.ref (aF 0), .ref qu, .int v2]) (n := 4) (Nat.le_of_ble_eq_true rfl)
  rw [show entryFrame m args 4 = entryFrame m ([.ref (aF 0), .ref qu, .int v2] : List Value).toArray 4 from by rw [hav], lg_entry_eq]
  generalize (lg_sl ([.ref (aF 0), .ref qu, .int v2]) ++ List.replicate (4 - (lg_sl ([.ref (aF 0), .ref qu, .int v2])).length) Slot.unset).toArray = ls at hl ⊢
  replace hl : lv_has ls 4 [(0, .ref (aF 0)), (1, .ref qu), (2, .int v2)] := hl
  have f28 := hts (.fieldLink RX3 28 "UncertainBook$Formula" "slopes" "[J") (by decide +kernel)
  have f34 := hts (.fieldLink RX3 34 "UncertainBook$Formula" "size" "I") (by decide +kernel)
  have f38 := hts (.fieldLink RX3 38 "UncertainBook$Formula" "root" "I") (by decide +kernel)
  have iX3 : ∀ w ∈ u_ws RX3 TX3 9, w ∈ wsX3_slopeForward := by decide +kernel
  refine w_q (fun Q hQ => ?_)
  unfold fX3_slopeForward at h
  show W p l e rmX3_slopeForward s m args below meth c s.heap [] 0 0 Q (F0 m 0 ls [])
  have LH_8 : ∀ (E34 : (Nat → Int64) → (Nat → Int64) → Option (Int64 × (Nat → Int64) × (Nat → Int64))) (hE34 : ∀ (Fvalues : Nat → Int64) (Fslopes : Nat → Int64), E34 Fvalues Fslopes = some (r, RFvalues, RFslopes) → ∀ (H : Heap) (locs : List Loc) (ls : Array Slot), va_P D vwCl ((wF k aF Fkinds Flefts Frights Fplaces Fvalues Fslopes Fexponents Fsize Froot) ++ ([(qu, .inl (k 0, 6, .inl uA))])) H → va_D A ((wF k aF Fkinds Flefts Frights Fplaces Fvalues Fslopes Fexponents Fsize Froot) ++ ([(qu, .inl (k 0, 6, .inl uA))])) → va_S A s.heap H locs → lv_has ls 4 [(0, .ref (aF 0))] → W p l e rmX3_slopeForward s m args below meth c H locs 0 0 Q (F0 m 34 ls [])) (n : Nat) (v3 : Int32) (Fvalues : Nat → Int64) (Fslopes : Nat → Int64), LX3_slopeForward_8 Fkinds Flefts Frights Fsize Froot uA v2 E34 n v3 Fvalues Fslopes = some (r, RFvalues, RFslopes) → ∀ (H : Heap) (locs : List Loc) (ls : Array Slot), va_P D vwCl ((wF k aF Fkinds Flefts Frights Fplaces Fvalues Fslopes Fexponents Fsize Froot) ++ ([(qu, .inl (k 0, 6, .inl uA))])) H → va_D A ((wF k aF Fkinds Flefts Frights Fplaces Fvalues Fslopes Fexponents Fsize Froot) ++ ([(qu, .inl (k 0, 6, .inl uA))])) → va_S A s.heap H locs → lv_has ls 4 [(0, .ref (aF 0)), (2, .int v2), (3, .int v3)] → W p l e rmX3_slopeForward s m args below meth c H locs 0 0 Q (F0 m 8 ls []) := by
    intro E34 hE34 n
    induction n with
    | zero => intro v3 Fvalues Fslopes h; simp [LX3_slopeForward_8] at h
    | succ n ih =>
    intro v3 Fvalues Fslopes h H locs ls hP hD hS hl
    rw [LX3_slopeForward_8] at h
    refine lv_iload_n hx hb dX3_slopeForward_8 rfl (lv_at hl 2 rfl) ?_
    refine lv_aload_n hx hb dX3_slopeForward_9 rfl (lv_at hl 0 rfl) ?_
    refine va_get (D := D) (ci := 3) (v := .int Fsize) (C := RX3) (T := TX3) (N := 9) hx hb hts iX3 hown hK hP 0 rfl rfl 7 (by decide) f34 (fun _ h9 => h9) rfl dX3_slopeForward_10 ?_
    refine lv_icmp_ge (tgt := 34) hx hb dX3_slopeForward_13 (by decide) (fun c2 => ?_) (fun c2 => ?_)
    · replace h := sf_t c2 h
      exact hE34 _ _ h _ _ _ hP hD hS (lv_sub hl [0] rfl)
    · replace h := sf_f c2 h
      refine lv_aload_n hx hb dX3_slopeForward_16 rfl (lv_at hl 0 rfl) ?_
      refine va_get (D := D) (ci := 3) (v := .ref (aF 6)) (C := RX3) (T := TX3) (N := 9) hx hb hts iX3 hown hK hP 0 rfl rfl 5 (by decide) f28 (fun _ h9 => h9) rfl dX3_slopeForward_17 ?_
      refine lv_iload_n hx hb dX3_slopeForward_20 rfl (lv_at hl 2 rfl) ?_
      refine lv_aload_n hx hb dX3_slopeForward_21 rfl (lv_at hl 0 rfl) ?_
      refine lv_iload_n hx hb dX3_slopeForward_22 rfl (lv_at hl 2 rfl) ?_
      refine lv_iload_n hx hb dX3_slopeForward_23 rfl (lv_at hl 1 rfl) ?_
      obtain ⟨r3, hc3, h⟩ := bnd1_inv h
      have hPc := hP.sub (ws' := (wF k aF Fkinds Flefts Frights Fplaces Fvalues Fslopes Fexponents Fsize Froot)) [0, 1, 2, 3, 4, 5, 6, 7] rfl
      have hDc := hD.sub (ws' := (wF k aF Fkinds Flefts Frights Fplaces Fvalues Fslopes Fexponents Fsize Froot)) [0, 1, 2, 3, 4, 5, 6, 7] rfl rfl
      have hFc := va_free (wc := (wF k aF Fkinds Flefts Frights Fplaces Fvalues Fslopes Fexponents Fsize Froot)) hD hS hA [0, 1, 2, 3, 4, 5, 6, 7] rfl
      refine xc_l (va_runV (As := [.int v3, .int v2]) (rest := [.int v3, .ref (aF 6)]) ⟨hx, hb, hml, hown, hts⟩ (met_X3_slopeOfPart l D k  aF H.size Fkinds Flefts Frights Fplaces Fvalues Fslopes Fexponents Fsize Froot v3 v2 r3 hc3) (cwV 2 hts gX3_slopeForward_X3_slopeOfPart rfl rfl rfl (by decide +kernel) ⟨Nat.le_of_ble_eq_true rfl, Nat.le_of_ble_eq_true rfl⟩) ⟨pw_blind, va_recv hK hPc (ci := 3) (q0 := 0) rfl rfl, pw_start hPc hK hDc⟩ rfl rfl hl.1 rfl (lv_room (Nat.le_of_ble_eq_true rfl)) dX3_slopeForward_24 ⟨Nat.zero_le _, Nat.zero_le _⟩) hS hFc (fun H1 locs hP1 hD1 hk1 hS => ?_)
      obtain ⟨hP, hD⟩ := vj (ws' := ((wF k aF Fkinds Flefts Frights Fplaces Fvalues Fslopes Fexponents Fsize Froot) ++ ([(qu, .inl (k 0, 6, .inl uA))]))) (w1 := (wF k aF Fkinds Flefts Frights Fplaces Fvalues Fslopes Fexponents Fsize Froot)) hP hD [0, 1, 2, 3, 4, 5, 6, 7] [8] [1, 2, 3, 4, 5, 6, 7, 8, 0] rfl rfl rfl rfl rfl hk1 hFc hP1 hD1
      clear hP1 hD1 hk1 hFc
      generalize H1 = H at hP hS ⊢
      obtain ⟨hi4, h⟩ := gi_inv h
      refine va_last hx hb hK hP hD hS 6 1 rfl rfl hi4 dX3_slopeForward_27 (fun H locs hP hD hS => ?_)
      replace hP : va_P D vwCl ((wF k aF Fkinds Flefts Frights Fplaces Fvalues (vp_updL Fslopes (v3.toNatClampNeg) r3) Fexponents Fsize Froot) ++ ([(qu, .inl (k 0, 6, .inl uA))])) H := hP
      replace hD : va_D A ((wF k aF Fkinds Flefts Frights Fplaces Fvalues (vp_updL Fslopes (v3.toNatClampNeg) r3) Fexponents Fsize Froot) ++ ([(qu, .inl (k 0, 6, .inl uA))])) := hD
      refine lv_iinc (v := v3 + 1) (lv' := [(3, .int (v3 + 1)), (0, .ref (aF 0)), (2, .int v2)]) hx hb dX3_slopeForward_28 hl (k := 2) rfl rfl (by decide) rfl (fun ls hl => ?_)
      refine lv_goto (tgt := 8) hx hb dX3_slopeForward_31 (by decide) ?_
      exact ih _ _ _ h _ _ _ hP hD hS (lv_sub hl [1, 2, 0] rfl)
  suffices main : ∀ (H : Heap) (locs : List Loc) (ls : Array Slot), va_P D vwCl ((wF k aF Fkinds Flefts Frights Fplaces Fvalues Fslopes Fexponents Fsize Froot) ++ ([(qu, .inl (k 0, 6, .inl uA))])) H → va_D A ((wF k aF Fkinds Flefts Frights Fplaces Fvalues Fslopes Fexponents Fsize Froot) ++ ([(qu, .inl (k 0, 6, .inl uA))])) → va_S A s.heap H locs → lv_has ls 4 [(0, .ref (aF 0)), (1, .ref qu), (2, .int v2)] → W p l e rmX3_slopeForward s m args below meth c H locs 0 0 Q (F0 m 0 ls []) from main _ _ _ hP hD hS hl
  clear hP hD hS hl ls hAe
  intro H locs ls hP hD hS hl
  refine lv_aload_n hx hb dX3_slopeForward_0 rfl (lv_at hl 0 rfl) ?_
  refine lv_aload_n hx hb dX3_slopeForward_1 rfl (lv_at hl 1 rfl) ?_
  obtain ⟨r1, values_1, hc1, h⟩ := bnd2_inv h
  have hFc := va_free (wc := ((wF k aF Fkinds Flefts Frights Fplaces Fvalues Fslopes Fexponents Fsize Froot) ++ ([(qu, .inl (k 0, 6, .inl uA))]))) hD hS hA [0, 1, 2, 3, 4, 5, 6, 7, 8] rfl
  refine xc_l (va_runV (As := [.ref qu]) (rest := []) ⟨hx, hb, hml, hown, hts⟩ (met_X3_reckonBy l D k  aF qu H.size Fkinds Flefts Frights Fplaces Fvalues Fslopes Fexponents Fsize Froot uA r1 values_1 hc1) (cwV 1 hts gX3_slopeForward_X3_reckonBy rfl rfl rfl (by decide +kernel) ⟨Nat.le_of_ble_eq_true rfl, Nat.le_of_ble_eq_true rfl⟩) ⟨pw_blind, va_recv hK hP (ci := 3) (q0 := 0) rfl rfl, pw_start hP hK hD⟩ rfl rfl hl.1 rfl (lv_room (Nat.le_of_ble_eq_true rfl)) dX3_slopeForward_2 ⟨Nat.zero_le _, Nat.zero_le _⟩) hS hFc (fun H1 locs hP1 hD1 hk1 hS => ?_)
  obtain ⟨hP, hD⟩ := vj_all hFc hP1 hD1
  clear hP1 hD1 hk1 hFc
  generalize H1 = H at hP hS ⊢
  refine lv_pop2_2 hx hb dX3_slopeForward_5 rfl ?_
  refine lv_iconst (v := 0) hx hb dX3_slopeForward_6 (by decide) ?_
  refine lv_istore_n (lv' := [(3, .int 0), (0, .ref (aF 0)), (1, .ref qu), (2, .int v2)]) hx hb dX3_slopeForward_7 rfl hl (by decide) rfl (fun ls hl => ?_)
  refine LH_8 _ (fun Fvalues Fslopes h H locs ls hP hD hS hl => ?_) _ _ _ _ h _ _ _ hP hD hS (lv_sub hl [1, 3, 0] rfl)
  · skip
    refine lv_aload_n hx hb dX3_slopeForward_34 rfl (lv_at hl 0 rfl) ?_
    refine va_get (D := D) (ci := 3) (v := .ref (aF 6)) (C := RX3) (T := TX3) (N := 9) hx hb hts iX3 hown hK hP 0 rfl rfl 5 (by decide) f28 (fun _ h9 => h9) rfl dX3_slopeForward_35 ?_
    refine lv_aload_n hx hb dX3_slopeForward_38 rfl (lv_at hl 0 rfl) ?_
    refine va_get (D := D) (ci := 3) (v := .int Froot) (C := RX3) (T := TX3) (N := 9) hx hb hts iX3 hown hK hP 0 rfl rfl 8 (by decide) f38 (fun _ h9 => h9) rfl dX3_slopeForward_39 ?_
    obtain ⟨hi5, h⟩ := gi_inv h
    refine va_lald hx hb hK hP 6 1 rfl rfl hi5 dX3_slopeForward_42 ?_
    have hP9 := hP
    have hD9 := hD
    have hS9 := hS
    subst hQ
    cases h
    exact W.lret hx hb hr (fun t ht hW => ⟨⟨_, (), rfl, rfl, by rw [ht]; exact hP9, va_K.moved hW.alike hK, hD9⟩, hS9.F ht⟩) hS9.2.2 dX3_slopeForward_43
def LJ7_fill_d0a16_n6_6 (v1 : Int64) (E22 : (Nat → Int64) → Option ((Nat → Int64))) : Nat → Int32 → Int32 → (Nat → Int64) → Option ((Nat → Int64))
  | 0, _, _, _ => none
  | fuel + 1, v3, v4, wA => (if v4 ≤ v3 then E22 wA else gi v3 6 (LJ7_fill_d0a16_n6_6 v1 E22 fuel (v3 + 1) v4 (vp_updL wA (v3.toNatClampNeg) v1)))
def fJ7_fill_d0a16_n6 (v1 : Int64) (wA : Nat → Int64) : Option ((Nat → Int64)) := LJ7_fill_d0a16_n6_6 v1 (fun (wA : Nat → Int64) => some (wA)) 1000 0 6 wA
abbrev rmJ7_fill_d0a16_n6 : Room := { frames := 0, cells := 0, slots := 0, locals := 0 }
set_option maxHeartbeats 4000000 in
set_option maxRecDepth 100000 in
theorem met_J7_fill_d0a16_n6 (l : Launch) (D : va_G) (k : Nat → ClassId)  (qw : Nat) (sz : Nat) (wA : Nat → Int64) (v1 : Int64) (RwA : Nat → Int64) (h : fJ7_fill_d0a16_n6 v1 wA = some RwA) : Met l yJ7_fill_d0a16 wsJ7_fill_d0a16 rmJ7_fill_d0a16_n6 (va_Pc [.ref qw, .long v1] (PreW D k ([(qw, .inl (k 1, 6, .inr (.inl wA)))]) sz)) (va_Qv (fun _ : Unit => True) (fun _ t => PostW D k (va_A ([(qw, .inl (k 1, 6, .inr (.inl wA)))]) sz) ([(qw, .inl (k 1, 6, .inr (.inl RwA)))]) t) (va_A ([(qw, .inl (k 1, 6, .inr (.inl wA)))]) sz)) 0 0 (va_A ([(qw, .inl (k 1, 6, .inr (.inl wA)))]) sz) := by
  refine Met.ofW (cc := cJ7_fill_d0a16) (maxL := 5) (ret := none) (by decide) rfl ?_
  intro p e s m args below meth c s₁ B hml hv
  obtain ⟨hav, hsz, hP, hK, hD0⟩ := hv
  have hx := B.exec
  have hb := B.bytes
  have hr := B.returns
  have hts := atoms_spec (ws := wsJ7_fill_d0a16) B.pre
  have hown : s.vm.findClass RJ7 = some m.cls := findClass_of_methodNamed B.named
  have hlocks := B.notSynchronized
  subst hsz
  have hD := hD0.self (sz := s.heap.size)
  clear hD0
  generalize hAe : va_A ([(qw, .inl (k 1, 6, .inr (.inl wA)))]) s.heap.size = A at hD ⊢
  have hA : ∀ q : Nat, s.heap.size ≤ q → A q := fun q h => by rw [← hAe]; exact Or.inr h
  have hS : va_S A s.heap s.heap [] := va_S.rf
  have hl := lv_entry ([.ref qw, .long v1]) (n := 5) (Nat.le_of_ble_eq_true rfl)
  rw [show entryFrame m args 5 = entryFrame m ([.ref qw, .long v1] : List Value).toArray 5 from by rw [hav], lg_entry_eq]
  generalize (lg_sl ([.ref qw, .long v1]) ++ List.replicate (5 - (lg_sl ([.ref qw, .long v1])).length) Slot.unset).toArray = ls at hl ⊢
  replace hl : lv_has ls 5 [(0, .ref qw), (1, .long v1)] := hl
  refine w_q (fun Q hQ => ?_)
  unfold fJ7_fill_d0a16_n6 at h
  show W p l e rmJ7_fill_d0a16_n6 s m args below meth c s.heap [] 0 0 Q (F0 m 0 ls [])
  have LH_6 : ∀ (E22 : (Nat → Int64) → Option ((Nat → Int64))) (hE22 : ∀ (wA : Nat → Int64), E22 wA = some RwA → ∀ (H : Heap) (locs : List Loc) (ls : Array Slot), va_P D vwCl ([(qw, .inl (k 1, 6, .inr (.inl wA)))]) H → va_D A ([(qw, .inl (k 1, 6, .inr (.inl wA)))]) → va_S A s.heap H locs → lv_has ls 5 [] → W p l e rmJ7_fill_d0a16_n6 s m args below meth c H locs 0 0 Q (F0 m 22 ls [])) (n : Nat) (v3 : Int32) (v4 : Int32) (wA : Nat → Int64), LJ7_fill_d0a16_n6_6 v1 E22 n v3 v4 wA = some RwA → ∀ (H : Heap) (locs : List Loc) (ls : Array Slot), va_P D vwCl ([(qw, .inl (k 1, 6, .inr (.inl wA)))]) H → va_D A ([(qw, .inl (k 1, 6, .inr (.inl wA)))]) → va_S A s.heap H locs → lv_has ls 5 [(0, .ref qw), (1, .long v1), (3, .int v3), (4, .int v4)] → W p l e rmJ7_fill_d0a16_n6 s m args below meth c H locs 0 0 Q (F0 m 6 ls []) := by
    intro E22 hE22 n
    induction n with
    | zero => intro v3 v4 wA h; simp [LJ7_fill_d0a16_n6_6] at h
    | succ n ih =>
    intro v3 v4 wA h H locs ls hP hD hS hl
    rw [LJ7_fill_d0a16_n6_6] at h
    refine lv_iload_n hx hb dJ7_fill_d0a16_6 rfl (lv_at hl 2 rfl) ?_
    refine lv_iload hx hb dJ7_fill_d0a16_7 (lv_at hl 3 rfl) ?_
    refine lv_icmp_ge (tgt := 22) hx hb dJ7_fill_d0a16_9 (by decide) (fun c1 => ?_) (fun c1 => ?_)
    · replace h := sf_t c1 h
      exact hE22 _ h _ _ _ hP hD hS (lv_sub hl [] rfl)
    · replace h := sf_f c1 h
      refine lv_aload_n hx hb dJ7_fill_d0a16_12 rfl (lv_at hl 0 rfl) ?_
      refine lv_iload_n hx hb dJ7_fill_d0a16_13 rfl (lv_at hl 2 rfl) ?_
      refine lv_lload_n hx hb dJ7_fill_d0a16_14 rfl (lv_at hl 1 rfl) ?_
      obtain ⟨hi2, h⟩ := gi_inv h
      refine va_last hx hb hK hP hD hS 0 1 rfl rfl hi2 dJ7_fill_d0a16_15 (fun H locs hP hD hS => ?_)
      replace hP : va_P D vwCl ([(qw, .inl (k 1, 6, .inr (.inl (vp_updL wA (v3.toNatClampNeg) v1))))]) H := hP
      replace hD : va_D A ([(qw, .inl (k 1, 6, .inr (.inl (vp_updL wA (v3.toNatClampNeg) v1))))]) := hD
      refine lv_iinc (v := v3 + 1) (lv' := [(3, .int (v3 + 1)), (0, .ref qw), (1, .long v1), (4, .int v4)]) hx hb dJ7_fill_d0a16_16 hl (k := 2) rfl rfl (by decide) rfl (fun ls hl => ?_)
      refine lv_goto (tgt := 6) hx hb dJ7_fill_d0a16_19 (by decide) ?_
      exact ih _ _ _ h _ _ _ hP hD hS (lv_sub hl [1, 2, 0, 3] rfl)
  suffices main : ∀ (H : Heap) (locs : List Loc) (ls : Array Slot), va_P D vwCl ([(qw, .inl (k 1, 6, .inr (.inl wA)))]) H → va_D A ([(qw, .inl (k 1, 6, .inr (.inl wA)))]) → va_S A s.heap H locs → lv_has ls 5 [(0, .ref qw), (1, .long v1)] → W p l e rmJ7_fill_d0a16_n6 s m args below meth c H locs 0 0 Q (F0 m 0 ls []) from main _ _ _ hP hD hS hl
  clear hP hD hS hl ls hAe
  intro H locs ls hP hD hS hl
  refine lv_iconst (v := 0) hx hb dJ7_fill_d0a16_0 (by decide) ?_
  refine lv_istore_n (lv' := [(3, .int 0), (0, .ref qw), (1, .long v1)]) hx hb dJ7_fill_d0a16_1 rfl hl (by decide) rfl (fun ls hl => ?_)
  refine lv_aload_n hx hb dJ7_fill_d0a16_2 rfl (lv_at hl 1 rfl) ?_
  refine va_alen (v := 6) hx hb hK hP 0 1 rfl rfl rfl dJ7_fill_d0a16_3 ?_
  refine lv_istore (lv' := [(4, .int 6), (3, .int 0), (0, .ref qw), (1, .long v1)]) hx hb dJ7_fill_d0a16_4 hl (by decide) rfl (fun ls hl => ?_)
  refine LH_6 _ (fun wA h H locs ls hP hD hS hl => ?_) _ _ _ _ h _ _ _ hP hD hS (lv_sub hl [2, 3, 1, 0] rfl)
  · skip
    have hP9 := hP
    have hD9 := hD
    have hS9 := hS
    subst hQ
    cases h
    exact W.vret hx hb hr (fun t ht hW => ⟨⟨(), rfl, trivial, by rw [ht]; exact hP9, va_K.moved hW.alike hK, hD9⟩, hS9.F ht⟩) hS9.2.2 dJ7_fill_d0a16_22
def LJ7_fill_d0a16_n60_6 (v1 : Int64) (E22 : (Nat → Int64) → Option ((Nat → Int64))) : Nat → Int32 → Int32 → (Nat → Int64) → Option ((Nat → Int64))
  | 0, _, _, _ => none
  | fuel + 1, v3, v4, wA => (if v4 ≤ v3 then E22 wA else gi v3 60 (LJ7_fill_d0a16_n60_6 v1 E22 fuel (v3 + 1) v4 (vp_updL wA (v3.toNatClampNeg) v1)))
def fJ7_fill_d0a16_n60 (v1 : Int64) (wA : Nat → Int64) : Option ((Nat → Int64)) := LJ7_fill_d0a16_n60_6 v1 (fun (wA : Nat → Int64) => some (wA)) 1000 0 60 wA
abbrev rmJ7_fill_d0a16_n60 : Room := { frames := 0, cells := 0, slots := 0, locals := 0 }
set_option maxHeartbeats 4000000 in
set_option maxRecDepth 100000 in
theorem met_J7_fill_d0a16_n60 (l : Launch) (D : va_G) (k : Nat → ClassId)  (qw : Nat) (sz : Nat) (wA : Nat → Int64) (v1 : Int64) (RwA : Nat → Int64) (h : fJ7_fill_d0a16_n60 v1 wA = some RwA) : Met l yJ7_fill_d0a16 wsJ7_fill_d0a16 rmJ7_fill_d0a16_n60 (va_Pc [.ref qw, .long v1] (PreW D k ([(qw, .inl (k 1, 60, .inr (.inl wA)))]) sz)) (va_Qv (fun _ : Unit => True) (fun _ t => PostW D k (va_A ([(qw, .inl (k 1, 60, .inr (.inl wA)))]) sz) ([(qw, .inl (k 1, 60, .inr (.inl RwA)))]) t) (va_A ([(qw, .inl (k 1, 60, .inr (.inl wA)))]) sz)) 0 0 (va_A ([(qw, .inl (k 1, 60, .inr (.inl wA)))]) sz) := by
  refine Met.ofW (cc := cJ7_fill_d0a16) (maxL := 5) (ret := none) (by decide) rfl ?_
  intro p e s m args below meth c s₁ B hml hv
  obtain ⟨hav, hsz, hP, hK, hD0⟩ := hv
  have hx := B.exec
  have hb := B.bytes
  have hr := B.returns
  have hts := atoms_spec (ws := wsJ7_fill_d0a16) B.pre
  have hown : s.vm.findClass RJ7 = some m.cls := findClass_of_methodNamed B.named
  have hlocks := B.notSynchronized
  subst hsz
  have hD := hD0.self (sz := s.heap.size)
  clear hD0
  generalize hAe : va_A ([(qw, .inl (k 1, 60, .inr (.inl wA)))]) s.heap.size = A at hD ⊢
  have hA : ∀ q : Nat, s.heap.size ≤ q → A q := fun q h => by rw [← hAe]; exact Or.inr h
  have hS : va_S A s.heap s.heap [] := va_S.rf
  have hl := lv_entry ([.ref qw, .long v1]) (n := 5) (Nat.le_of_ble_eq_true rfl)
  rw [show entryFrame m args 5 = entryFrame m ([.ref qw, .long v1] : List Value).toArray 5 from by rw [hav], lg_entry_eq]
  generalize (lg_sl ([.ref qw, .long v1]) ++ List.replicate (5 - (lg_sl ([.ref qw, .long v1])).length) Slot.unset).toArray = ls at hl ⊢
  replace hl : lv_has ls 5 [(0, .ref qw), (1, .long v1)] := hl
  refine w_q (fun Q hQ => ?_)
  unfold fJ7_fill_d0a16_n60 at h
  show W p l e rmJ7_fill_d0a16_n60 s m args below meth c s.heap [] 0 0 Q (F0 m 0 ls [])
  have LH_6 : ∀ (E22 : (Nat → Int64) → Option ((Nat → Int64))) (hE22 : ∀ (wA : Nat → Int64), E22 wA = some RwA → ∀ (H : Heap) (locs : List Loc) (ls : Array Slot), va_P D vwCl ([(qw, .inl (k 1, 60, .inr (.inl wA)))]) H → va_D A ([(qw, .inl (k 1, 60, .inr (.inl wA)))]) → va_S A s.heap H locs → lv_has ls 5 [] → W p l e rmJ7_fill_d0a16_n60 s m args below meth c H locs 0 0 Q (F0 m 22 ls [])) (n : Nat) (v3 : Int32) (v4 : Int32) (wA : Nat → Int64), LJ7_fill_d0a16_n60_6 v1 E22 n v3 v4 wA = some RwA → ∀ (H : Heap) (locs : List Loc) (ls : Array Slot), va_P D vwCl ([(qw, .inl (k 1, 60, .inr (.inl wA)))]) H → va_D A ([(qw, .inl (k 1, 60, .inr (.inl wA)))]) → va_S A s.heap H locs → lv_has ls 5 [(0, .ref qw), (1, .long v1), (3, .int v3), (4, .int v4)] → W p l e rmJ7_fill_d0a16_n60 s m args below meth c H locs 0 0 Q (F0 m 6 ls []) := by
    intro E22 hE22 n
    induction n with
    | zero => intro v3 v4 wA h; simp [LJ7_fill_d0a16_n60_6] at h
    | succ n ih =>
    intro v3 v4 wA h H locs ls hP hD hS hl
    rw [LJ7_fill_d0a16_n60_6] at h
    refine lv_iload_n hx hb dJ7_fill_d0a16_6 rfl (lv_at hl 2 rfl) ?_
    refine lv_iload hx hb dJ7_fill_d0a16_7 (lv_at hl 3 rfl) ?_
    refine lv_icmp_ge (tgt := 22) hx hb dJ7_fill_d0a16_9 (by decide) (fun c1 => ?_) (fun c1 => ?_)
    · replace h := sf_t c1 h
      exact hE22 _ h _ _ _ hP hD hS (lv_sub hl [] rfl)
    · replace h := sf_f c1 h
      refine lv_aload_n hx hb dJ7_fill_d0a16_12 rfl (lv_at hl 0 rfl) ?_
      refine lv_iload_n hx hb dJ7_fill_d0a16_13 rfl (lv_at hl 2 rfl) ?_
      refine lv_lload_n hx hb dJ7_fill_d0a16_14 rfl (lv_at hl 1 rfl) ?_
      obtain ⟨hi2, h⟩ := gi_inv h
      refine va_last hx hb hK hP hD hS 0 1 rfl rfl hi2 dJ7_fill_d0a16_15 (fun H locs hP hD hS => ?_)
      replace hP : va_P D vwCl ([(qw, .inl (k 1, 60, .inr (.inl (vp_updL wA (v3.toNatClampNeg) v1))))]) H := hP
      replace hD : va_D A ([(qw, .inl (k 1, 60, .inr (.inl (vp_updL wA (v3.toNatClampNeg) v1))))]) := hD
      refine lv_iinc (v := v3 + 1) (lv' := [(3, .int (v3 + 1)), (0, .ref qw), (1, .long v1), (4, .int v4)]) hx hb dJ7_fill_d0a16_16 hl (k := 2) rfl rfl (by decide) rfl (fun ls hl => ?_)
      refine lv_goto (tgt := 6) hx hb dJ7_fill_d0a16_19 (by decide) ?_
      exact ih _ _ _ h _ _ _ hP hD hS (lv_sub hl [1, 2, 0, 3] rfl)
  suffices main : ∀ (H : Heap) (locs : List Loc) (ls : Array Slot), va_P D vwCl ([(qw, .inl (k 1, 60, .inr (.inl wA)))]) H → va_D A ([(qw, .inl (k 1, 60, .inr (.inl wA)))]) → va_S A s.heap H locs → lv_has ls 5 [(0, .ref qw), (1, .long v1)] → W p l e rmJ7_fill_d0a16_n60 s m args below meth c H locs 0 0 Q (F0 m 0 ls []) from main _ _ _ hP hD hS hl
  clear hP hD hS hl ls hAe
  intro H locs ls hP hD hS hl
  refine lv_iconst (v := 0) hx hb dJ7_fill_d0a16_0 (by decide) ?_
  refine lv_istore_n (lv' := [(3, .int 0), (0, .ref qw), (1, .long v1)]) hx hb dJ7_fill_d0a16_1 rfl hl (by decide) rfl (fun ls hl => ?_)
  refine lv_aload_n hx hb dJ7_fill_d0a16_2 rfl (lv_at hl 1 rfl) ?_
  refine va_alen (v := 60) hx hb hK hP 0 1 rfl rfl rfl dJ7_fill_d0a16_3 ?_
  refine lv_istore (lv' := [(4, .int 60), (3, .int 0), (0, .ref qw), (1, .long v1)]) hx hb dJ7_fill_d0a16_4 hl (by decide) rfl (fun ls hl => ?_)
  refine LH_6 _ (fun wA h H locs ls hP hD hS hl => ?_) _ _ _ _ h _ _ _ hP hD hS (lv_sub hl [2, 3, 1, 0] rfl)
  · skip
    have hP9 := hP
    have hD9 := hD
    have hS9 := hS
    subst hQ
    cases h
    exact W.vret hx hb hr (fun t ht hW => ⟨⟨(), rfl, trivial, by rw [ht]; exact hP9, va_K.moved hW.alike hK, hD9⟩, hS9.F ht⟩) hS9.2.2 dJ7_fill_d0a16_22
def fX3_handDown (v1 : Int32) (Fkinds : Nat → Int32) (Flefts : Nat → Int32) (Frights : Nat → Int32) (Fvalues : Nat → Int64) (Fslopes : Nat → Int64) : Option ((Nat → Int64)) := gi v1 60 (gi v1 60 (gi v1 60 (gi v1 60 ((if (Fkinds v1.toNatClampNeg) = 2 then gi (Flefts v1.toNatClampNeg) 60 (gi (Flefts v1.toNatClampNeg) 60 (some (vp_updL Fslopes ((Flefts v1.toNatClampNeg).toNatClampNeg) ((Fslopes (Flefts v1.toNatClampNeg).toNatClampNeg) - (Fslopes v1.toNatClampNeg))))) else if (Fkinds v1.toNatClampNeg) = 3 then gi (Flefts v1.toNatClampNeg) 60 (gi (Flefts v1.toNatClampNeg) 60 (gi (Frights v1.toNatClampNeg) 60 (gi (Frights v1.toNatClampNeg) 60 (some (vp_updL (vp_updL Fslopes ((Flefts v1.toNatClampNeg).toNatClampNeg) ((Fslopes (Flefts v1.toNatClampNeg).toNatClampNeg) + (Fslopes v1.toNatClampNeg))) ((Frights v1.toNatClampNeg).toNatClampNeg) (((vp_updL Fslopes ((Flefts v1.toNatClampNeg).toNatClampNeg) ((Fslopes (Flefts v1.toNatClampNeg).toNatClampNeg) + (Fslopes v1.toNatClampNeg))) (Frights v1.toNatClampNeg).toNatClampNeg) + (Fslopes v1.toNatClampNeg))))))) else if (Fkinds v1.toNatClampNeg) = 4 then gi (Flefts v1.toNatClampNeg) 60 (gi (Flefts v1.toNatClampNeg) 60 (gi (Frights v1.toNatClampNeg) 60 (gi (Frights v1.toNatClampNeg) 60 (some (vp_updL (vp_updL Fslopes ((Flefts v1.toNatClampNeg).toNatClampNeg) ((Fslopes (Flefts v1.toNatClampNeg).toNatClampNeg) + (Fslopes v1.toNatClampNeg))) ((Frights v1.toNatClampNeg).toNatClampNeg) (((vp_updL Fslopes ((Flefts v1.toNatClampNeg).toNatClampNeg) ((Fslopes (Flefts v1.toNatClampNeg).toNatClampNeg) + (Fslopes v1.toNatClampNeg))) (Frights v1.toNatClampNeg).toNatClampNeg) - (Fslopes v1.toNatClampNeg))))))) else if (Fkinds v1.toNatClampNeg) = 5 then gi (Flefts v1.toNatClampNeg) 60 (gi (Frights v1.toNatClampNeg) 60 (gi (Flefts v1.toNatClampNeg) 60 (gi (Frights v1.toNatClampNeg) 60 (gi (Flefts v1.toNatClampNeg) 60 (gi (Frights v1.toNatClampNeg) 60 (some (vp_updL (vp_updL Fslopes ((Flefts v1.toNatClampNeg).toNatClampNeg) ((Fslopes (Flefts v1.toNatClampNeg).toNatClampNeg) + ((Fslopes v1.toNatClampNeg) * (Fvalues (Frights v1.toNatClampNeg).toNatClampNeg)))) ((Frights v1.toNatClampNeg).toNatClampNeg) (((vp_updL Fslopes ((Flefts v1.toNatClampNeg).toNatClampNeg) ((Fslopes (Flefts v1.toNatClampNeg).toNatClampNeg) + ((Fslopes v1.toNatClampNeg) * (Fvalues (Frights v1.toNatClampNeg).toNatClampNeg)))) (Frights v1.toNatClampNeg).toNatClampNeg) + ((Fslopes v1.toNatClampNeg) * (Fvalues (Flefts v1.toNatClampNeg).toNatClampNeg)))))))))) else gi (Flefts v1.toNatClampNeg) 60 (bnd1 (fX3_powerSlope v1 Flefts Frights Fvalues) (fun r26 => gi (Flefts v1.toNatClampNeg) 60 (some (vp_updL Fslopes ((Flefts v1.toNatClampNeg).toNatClampNeg) ((Fslopes (Flefts v1.toNatClampNeg).toNatClampNeg) + ((Fslopes v1.toNatClampNeg) * r26)))))))))))
abbrev rmX3_handDown : Room := { frames := 2, cells := 0, slots := 0, locals := 47 }
set_option maxHeartbeats 4000000 in
set_option maxRecDepth 100000 in
theorem met_X3_handDown (l : Launch) (D : va_G) (k : Nat → ClassId)  (aF : Nat → Nat) (sz : Nat) (Fkinds : Nat → Int32) (Flefts : Nat → Int32) (Frights : Nat → Int32) (Fplaces : Nat → Int32) (Fvalues : Nat → Int64) (Fslopes : Nat → Int64) (Fexponents : Nat → Int32) (Fsize : Int32) (Froot : Int32) (v1 : Int32) (RFslopes : Nat → Int64) (h : fX3_handDown v1 Fkinds Flefts Frights Fvalues Fslopes = some RFslopes) : Met l yX3_handDown wsX3_handDown rmX3_handDown (va_Pc [.ref (aF 0), .int v1] (PreW D k (wF k aF Fkinds Flefts Frights Fplaces Fvalues Fslopes Fexponents Fsize Froot) sz)) (va_Qv (fun _ : Unit => True) (fun _ t => PostW D k (va_A (wF k aF Fkinds Flefts Frights Fplaces Fvalues Fslopes Fexponents Fsize Froot) sz) (wF k aF Fkinds Flefts Frights Fplaces Fvalues RFslopes Fexponents Fsize Froot) t) (va_A (wF k aF Fkinds Flefts Frights Fplaces Fvalues Fslopes Fexponents Fsize Froot) sz)) 0 0 (va_A (wF k aF Fkinds Flefts Frights Fplaces Fvalues Fslopes Fexponents Fsize Froot) sz) := by
  refine Met.ofW (cc := cX3_handDown) (maxL := 6) (ret := none) (by decide) rfl ?_
  intro p e s m args below meth c s₁ B hml hv
  obtain ⟨hav, hsz, hP, hK, hD0⟩ := hv
  have hx := B.exec
  have hb := B.bytes
  have hr := B.returns
  have hts := atoms_spec (ws := wsX3_handDown) B.pre
  have hown : s.vm.findClass RX3 = some m.cls := findClass_of_methodNamed B.named
  have hlocks := B.notSynchronized
  subst hsz
  have hD := hD0.self (sz := s.heap.size)
  clear hD0
  generalize hAe : va_A (wF k aF Fkinds Flefts Frights Fplaces Fvalues Fslopes Fexponents Fsize Froot) s.heap.size = A at hD ⊢
  have hA : ∀ q : Nat, s.heap.size ≤ q → A q := fun q h => by rw [← hAe]; exact Or.inr h
  have hS : va_S A s.heap s.heap [] := va_S.rf
  have hl := lv_entry ([.ref (aF 0), .int v1]) (n := 6) (Nat.le_of_ble_eq_true rfl)
  rw [show entryFrame m args 6 = entryFrame m ([.ref (aF 0), .int v1] : List Value).toArray 6 from by rw [hav], lg_entry_eq]
  generalize (lg_sl ([.ref (aF 0), .int v1]) ++ List.replicate (6 - (lg_sl ([.ref (aF 0), .int v1])).length) Slot.unset).toArray = ls at hl ⊢
  replace hl : lv_has ls 6 [(0, .ref (aF 0)), (1, .int v1)] := hl
  have f9 := hts (.fieldLink RX3 9 "UncertainBook$Formula" "kinds" "[I") (by decide +kernel)
  have f15 := hts (.fieldLink RX3 15 "UncertainBook$Formula" "lefts" "[I") (by decide +kernel)
  have f18 := hts (.fieldLink RX3 18 "UncertainBook$Formula" "rights" "[I") (by decide +kernel)
  have f24 := hts (.fieldLink RX3 24 "UncertainBook$Formula" "values" "[J") (by decide +kernel)
  have f28 := hts (.fieldLink RX3 28 "UncertainBook$Formula" "slopes" "[J") (by decide +kernel)
  have iX3 : ∀ w ∈ u_ws RX3 TX3 9, w ∈ wsX3_handDown := by decide +kernel
  refine w_q (fun Q hQ => ?_)
  unfold fX3_handDown at h
  show W p l e rmX3_handDown s m args below meth c s.heap [] 0 0 Q (F0 m 0 ls [])
  suffices main : ∀ (H : Heap) (locs : List Loc) (ls : Array Slot), va_P D vwCl (wF k aF Fkinds Flefts Frights Fplaces Fvalues Fslopes Fexponents Fsize Froot) H → va_D A (wF k aF Fkinds Flefts Frights Fplaces Fvalues Fslopes Fexponents Fsize Froot) → va_S A s.heap H locs → lv_has ls 6 [(0, .ref (aF 0)), (1, .int v1)] → W p l e rmX3_handDown s m args below meth c H locs 0 0 Q (F0 m 0 ls []) from main _ _ _ hP hD hS hl
  clear hP hD hS hl ls hAe
  intro H locs ls hP hD hS hl
  refine lv_aload_n hx hb dX3_handDown_0 rfl (lv_at hl 0 rfl) ?_
  refine va_get (D := D) (ci := 3) (v := .ref (aF 2)) (C := RX3) (T := TX3) (N := 9) hx hb hts iX3 hown hK hP 0 rfl rfl 1 (by decide) f15 (fun _ h9 => h9) rfl dX3_handDown_1 ?_
  refine lv_iload_n hx hb dX3_handDown_4 rfl (lv_at hl 1 rfl) ?_
  obtain ⟨hi1, h⟩ := gi_inv h
  refine va_iald hx hb hK hP 2 0 rfl rfl hi1 dX3_handDown_5 ?_
  refine lv_istore_n (lv' := [(2, .int (Flefts v1.toNatClampNeg)), (0, .ref (aF 0)), (1, .int v1)]) hx hb dX3_handDown_6 rfl hl (by decide) rfl (fun ls hl => ?_)
  refine lv_aload_n hx hb dX3_handDown_7 rfl (lv_at hl 1 rfl) ?_
  refine va_get (D := D) (ci := 3) (v := .ref (aF 3)) (C := RX3) (T := TX3) (N := 9) hx hb hts iX3 hown hK hP 0 rfl rfl 2 (by decide) f18 (fun _ h9 => h9) rfl dX3_handDown_8 ?_
  refine lv_iload_n hx hb dX3_handDown_11 rfl (lv_at hl 2 rfl) ?_
  obtain ⟨hi2, h⟩ := gi_inv h
  refine va_iald hx hb hK hP 3 0 rfl rfl hi2 dX3_handDown_12 ?_
  refine lv_istore_n (lv' := [(3, .int (Frights v1.toNatClampNeg)), (2, .int (Flefts v1.toNatClampNeg)), (0, .ref (aF 0)), (1, .int v1)]) hx hb dX3_handDown_13 rfl hl (by decide) rfl (fun ls hl => ?_)
  refine lv_aload_n hx hb dX3_handDown_14 rfl (lv_at hl 2 rfl) ?_
  refine va_get (D := D) (ci := 3) (v := .ref (aF 6)) (C := RX3) (T := TX3) (N := 9) hx hb hts iX3 hown hK hP 0 rfl rfl 5 (by decide) f28 (fun _ h9 => h9) rfl dX3_handDown_15 ?_
  refine lv_iload_n hx hb dX3_handDown_18 rfl (lv_at hl 3 rfl) ?_
  obtain ⟨hi3, h⟩ := gi_inv h
  refine va_lald hx hb hK hP 6 1 rfl rfl hi3 dX3_handDown_19 ?_
  refine lv_lstore (lv' := [(4, .long (Fslopes v1.toNatClampNeg)), (3, .int (Frights v1.toNatClampNeg)), (2, .int (Flefts v1.toNatClampNeg)), (0, .ref (aF 0)), (1, .int v1)]) hx hb dX3_handDown_20 hl (by decide) rfl (fun ls hl => ?_)
  refine lv_aload_n hx hb dX3_handDown_22 rfl (lv_at hl 3 rfl) ?_
  refine va_get (D := D) (ci := 3) (v := .ref (aF 1)) (C := RX3) (T := TX3) (N := 9) hx hb hts iX3 hown hK hP 0 rfl rfl 0 (by decide) f9 (fun _ h9 => h9) rfl dX3_handDown_23 ?_
  refine lv_iload_n hx hb dX3_handDown_26 rfl (lv_at hl 4 rfl) ?_
  obtain ⟨hi4, h⟩ := gi_inv h
  refine va_iald hx hb hK hP 1 0 rfl rfl hi4 dX3_handDown_27 ?_
  rcases Decidable.em ((Fkinds v1.toNatClampNeg) = 2) with c5 | c5
  · replace h := sf_t c5 h
    refine lv_tableIn (off := 32) (tgt := 60) hx hb dX3_handDown_28 (by rw [c5]; decide) (by rw [c5]; decide) (by rw [c5]; rfl) (by decide) ?_
    refine lv_aload_n hx hb dX3_handDown_60 rfl (lv_at hl 3 rfl) ?_
    refine va_get (D := D) (ci := 3) (v := .ref (aF 6)) (C := RX3) (T := TX3) (N := 9) hx hb hts iX3 hown hK hP 0 rfl rfl 5 (by decide) f28 (fun _ h9 => h9) rfl dX3_handDown_61 ?_
    refine lv_iload_n hx hb dX3_handDown_64 rfl (lv_at hl 2 rfl) ?_
    refine lv_dup2_11 hx hb dX3_handDown_65 rfl rfl ?_
    obtain ⟨hi6, h⟩ := gi_inv h
    refine va_lald hx hb hK hP 6 1 rfl rfl hi6 dX3_handDown_66 ?_
    refine lv_lload hx hb dX3_handDown_67 (lv_at hl 0 rfl) ?_
    refine lv_lsub hx hb dX3_handDown_69 ?_
    obtain ⟨hi7, h⟩ := gi_inv h
    refine va_last hx hb hK hP hD hS 6 1 rfl rfl hi7 dX3_handDown_70 (fun H locs hP hD hS => ?_)
    replace hP : va_P D vwCl (wF k aF Fkinds Flefts Frights Fplaces Fvalues (vp_updL Fslopes ((Flefts v1.toNatClampNeg).toNatClampNeg) ((Fslopes (Flefts v1.toNatClampNeg).toNatClampNeg) - (Fslopes v1.toNatClampNeg))) Fexponents Fsize Froot) H := hP
    replace hD : va_D A (wF k aF Fkinds Flefts Frights Fplaces Fvalues (vp_updL Fslopes ((Flefts v1.toNatClampNeg).toNatClampNeg) ((Fslopes (Flefts v1.toNatClampNeg).toNatClampNeg) - (Fslopes v1.toNatClampNeg))) Fexponents Fsize Froot) := hD
    refine lv_goto (tgt := 180) hx hb dX3_handDown_71 (by decide) ?_
    have hP9 := hP
    have hD9 := hD
    have hS9 := hS
    subst hQ
    cases h
    exact W.vret hx hb hr (fun t ht hW => ⟨⟨(), rfl, trivial, by rw [ht]; exact hP9, va_K.moved hW.alike hK, hD9⟩, hS9.F ht⟩) hS9.2.2 dX3_handDown_180
  replace h := sf_f c5 h
  rcases Decidable.em ((Fkinds v1.toNatClampNeg) = 3) with c8 | c8
  · replace h := sf_t c8 h
    refine lv_tableIn (off := 46) (tgt := 74) hx hb dX3_handDown_28 (by rw [c8]; decide) (by rw [c8]; decide) (by rw [c8]; rfl) (by decide) ?_
    refine lv_aload_n hx hb dX3_handDown_74 rfl (lv_at hl 3 rfl) ?_
    refine va_get (D := D) (ci := 3) (v := .ref (aF 6)) (C := RX3) (T := TX3) (N := 9) hx hb hts iX3 hown hK hP 0 rfl rfl 5 (by decide) f28 (fun _ h9 => h9) rfl dX3_handDown_75 ?_
    refine lv_iload_n hx hb dX3_handDown_78 rfl (lv_at hl 2 rfl) ?_
    refine lv_dup2_11 hx hb dX3_handDown_79 rfl rfl ?_
    obtain ⟨hi9, h⟩ := gi_inv h
    refine va_lald hx hb hK hP 6 1 rfl rfl hi9 dX3_handDown_80 ?_
    refine lv_lload hx hb dX3_handDown_81 (lv_at hl 0 rfl) ?_
    refine lv_ladd hx hb dX3_handDown_83 ?_
    obtain ⟨hi10, h⟩ := gi_inv h
    refine va_last hx hb hK hP hD hS 6 1 rfl rfl hi10 dX3_handDown_84 (fun H locs hP hD hS => ?_)
    replace hP : va_P D vwCl (wF k aF Fkinds Flefts Frights Fplaces Fvalues (vp_updL Fslopes ((Flefts v1.toNatClampNeg).toNatClampNeg) ((Fslopes (Flefts v1.toNatClampNeg).toNatClampNeg) + (Fslopes v1.toNatClampNeg))) Fexponents Fsize Froot) H := hP
    replace hD : va_D A (wF k aF Fkinds Flefts Frights Fplaces Fvalues (vp_updL Fslopes ((Flefts v1.toNatClampNeg).toNatClampNeg) ((Fslopes (Flefts v1.toNatClampNeg).toNatClampNeg) + (Fslopes v1.toNatClampNeg))) Fexponents Fsize Froot) := hD
    refine lv_aload_n hx hb dX3_handDown_85 rfl (lv_at hl 3 rfl) ?_
    refine va_get (D := D) (ci := 3) (v := .ref (aF 6)) (C := RX3) (T := TX3) (N := 9) hx hb hts iX3 hown hK hP 0 rfl rfl 5 (by decide) f28 (fun _ h9 => h9) rfl dX3_handDown_86 ?_
    refine lv_iload_n hx hb dX3_handDown_89 rfl (lv_at hl 1 rfl) ?_
    refine lv_dup2_11 hx hb dX3_handDown_90 rfl rfl ?_
    obtain ⟨hi11, h⟩ := gi_inv h
    refine va_lald hx hb hK hP 6 1 rfl rfl hi11 dX3_handDown_91 ?_
    refine lv_lload hx hb dX3_handDown_92 (lv_at hl 0 rfl) ?_
    refine lv_ladd hx hb dX3_handDown_94 ?_
    obtain ⟨hi12, h⟩ := gi_inv h
    refine va_last hx hb hK hP hD hS 6 1 rfl rfl hi12 dX3_handDown_95 (fun H locs hP hD hS => ?_)
    replace hP : va_P D vwCl (wF k aF Fkinds Flefts Frights Fplaces Fvalues (vp_updL (vp_updL Fslopes ((Flefts v1.toNatClampNeg).toNatClampNeg) ((Fslopes (Flefts v1.toNatClampNeg).toNatClampNeg) + (Fslopes v1.toNatClampNeg))) ((Frights v1.toNatClampNeg).toNatClampNeg) (((vp_updL Fslopes ((Flefts v1.toNatClampNeg).toNatClampNeg) ((Fslopes (Flefts v1.toNatClampNeg).toNatClampNeg) + (Fslopes v1.toNatClampNeg))) (Frights v1.toNatClampNeg).toNatClampNeg) + (Fslopes v1.toNatClampNeg))) Fexponents Fsize Froot) H := hP
    replace hD : va_D A (wF k aF Fkinds Flefts Frights Fplaces Fvalues (vp_updL (vp_updL Fslopes ((Flefts v1.toNatClampNeg).toNatClampNeg) ((Fslopes (Flefts v1.toNatClampNeg).toNatClampNeg) + (Fslopes v1.toNatClampNeg))) ((Frights v1.toNatClampNeg).toNatClampNeg) (((vp_updL Fslopes ((Flefts v1.toNatClampNeg).toNatClampNeg) ((Fslopes (Flefts v1.toNatClampNeg).toNatClampNeg) + (Fslopes v1.toNatClampNeg))) (Frights v1.toNatClampNeg).toNatClampNeg) + (Fslopes v1.toNatClampNeg))) Fexponents Fsize Froot) := hD
    refine lv_goto (tgt := 180) hx hb dX3_handDown_96 (by decide) ?_
    have hP9 := hP
    have hD9 := hD
    have hS9 := hS
    subst hQ
    cases h
    exact W.vret hx hb hr (fun t ht hW => ⟨⟨(), rfl, trivial, by rw [ht]; exact hP9, va_K.moved hW.alike hK, hD9⟩, hS9.F ht⟩) hS9.2.2 dX3_handDown_180
  replace h := sf_f c8 h
  rcases Decidable.em ((Fkinds v1.toNatClampNeg) = 4) with c13 | c13
  · replace h := sf_t c13 h
    refine lv_tableIn (off := 71) (tgt := 99) hx hb dX3_handDown_28 (by rw [c13]; decide) (by rw [c13]; decide) (by rw [c13]; rfl) (by decide) ?_
    refine lv_aload_n hx hb dX3_handDown_99 rfl (lv_at hl 3 rfl) ?_
    refine va_get (D := D) (ci := 3) (v := .ref (aF 6)) (C := RX3) (T := TX3) (N := 9) hx hb hts iX3 hown hK hP 0 rfl rfl 5 (by decide) f28 (fun _ h9 => h9) rfl dX3_handDown_100 ?_
    refine lv_iload_n hx hb dX3_handDown_103 rfl (lv_at hl 2 rfl) ?_
    refine lv_dup2_11 hx hb dX3_handDown_104 rfl rfl ?_
    obtain ⟨hi14, h⟩ := gi_inv h
    refine va_lald hx hb hK hP 6 1 rfl rfl hi14 dX3_handDown_105 ?_
    refine lv_lload hx hb dX3_handDown_106 (lv_at hl 0 rfl) ?_
    refine lv_ladd hx hb dX3_handDown_108 ?_
    obtain ⟨hi15, h⟩ := gi_inv h
    refine va_last hx hb hK hP hD hS 6 1 rfl rfl hi15 dX3_handDown_109 (fun H locs hP hD hS => ?_)
    replace hP : va_P D vwCl (wF k aF Fkinds Flefts Frights Fplaces Fvalues (vp_updL Fslopes ((Flefts v1.toNatClampNeg).toNatClampNeg) ((Fslopes (Flefts v1.toNatClampNeg).toNatClampNeg) + (Fslopes v1.toNatClampNeg))) Fexponents Fsize Froot) H := hP
    replace hD : va_D A (wF k aF Fkinds Flefts Frights Fplaces Fvalues (vp_updL Fslopes ((Flefts v1.toNatClampNeg).toNatClampNeg) ((Fslopes (Flefts v1.toNatClampNeg).toNatClampNeg) + (Fslopes v1.toNatClampNeg))) Fexponents Fsize Froot) := hD
    refine lv_aload_n hx hb dX3_handDown_110 rfl (lv_at hl 3 rfl) ?_
    refine va_get (D := D) (ci := 3) (v := .ref (aF 6)) (C := RX3) (T := TX3) (N := 9) hx hb hts iX3 hown hK hP 0 rfl rfl 5 (by decide) f28 (fun _ h9 => h9) rfl dX3_handDown_111 ?_
    refine lv_iload_n hx hb dX3_handDown_114 rfl (lv_at hl 1 rfl) ?_
    refine lv_dup2_11 hx hb dX3_handDown_115 rfl rfl ?_
    obtain ⟨hi16, h⟩ := gi_inv h
    refine va_lald hx hb hK hP 6 1 rfl rfl hi16 dX3_handDown_116 ?_
    refine lv_lload hx hb dX3_handDown_117 (lv_at hl 0 rfl) ?_
    refine lv_lsub hx hb dX3_handDown_119 ?_
    obtain ⟨hi17, h⟩ := gi_inv h
    refine va_last hx hb hK hP hD hS 6 1 rfl rfl hi17 dX3_handDown_120 (fun H locs hP hD hS => ?_)
    replace hP : va_P D vwCl (wF k aF Fkinds Flefts Frights Fplaces Fvalues (vp_updL (vp_updL Fslopes ((Flefts v1.toNatClampNeg).toNatClampNeg) ((Fslopes (Flefts v1.toNatClampNeg).toNatClampNeg) + (Fslopes v1.toNatClampNeg))) ((Frights v1.toNatClampNeg).toNatClampNeg) (((vp_updL Fslopes ((Flefts v1.toNatClampNeg).toNatClampNeg) ((Fslopes (Flefts v1.toNatClampNeg).toNatClampNeg) + (Fslopes v1.toNatClampNeg))) (Frights v1.toNatClampNeg).toNatClampNeg) - (Fslopes v1.toNatClampNeg))) Fexponents Fsize Froot) H := hP
    replace hD : va_D A (wF k aF Fkinds Flefts Frights Fplaces Fvalues (vp_updL (vp_updL Fslopes ((Flefts v1.toNatClampNeg).toNatClampNeg) ((Fslopes (Flefts v1.toNatClampNeg).toNatClampNeg) + (Fslopes v1.toNatClampNeg))) ((Frights v1.toNatClampNeg).toNatClampNeg) (((vp_updL Fslopes ((Flefts v1.toNatClampNeg).toNatClampNeg) ((Fslopes (Flefts v1.toNatClampNeg).toNatClampNeg) + (Fslopes v1.toNatClampNeg))) (Frights v1.toNatClampNeg).toNatClampNeg) - (Fslopes v1.toNatClampNeg))) Fexponents Fsize Froot) := hD
    refine lv_goto (tgt := 180) hx hb dX3_handDown_121 (by decide) ?_
    have hP9 := hP
    have hD9 := hD
    have hS9 := hS
    subst hQ
    cases h
    exact W.vret hx hb hr (fun t ht hW => ⟨⟨(), rfl, trivial, by rw [ht]; exact hP9, va_K.moved hW.alike hK, hD9⟩, hS9.F ht⟩) hS9.2.2 dX3_handDown_180
  replace h := sf_f c13 h
  rcases Decidable.em ((Fkinds v1.toNatClampNeg) = 5) with c18 | c18
  · replace h := sf_t c18 h
    refine lv_tableIn (off := 96) (tgt := 124) hx hb dX3_handDown_28 (by rw [c18]; decide) (by rw [c18]; decide) (by rw [c18]; rfl) (by decide) ?_
    refine lv_aload_n hx hb dX3_handDown_124 rfl (lv_at hl 3 rfl) ?_
    refine va_get (D := D) (ci := 3) (v := .ref (aF 6)) (C := RX3) (T := TX3) (N := 9) hx hb hts iX3 hown hK hP 0 rfl rfl 5 (by decide) f28 (fun _ h9 => h9) rfl dX3_handDown_125 ?_
    refine lv_iload_n hx hb dX3_handDown_128 rfl (lv_at hl 2 rfl) ?_
    refine lv_dup2_11 hx hb dX3_handDown_129 rfl rfl ?_
    obtain ⟨hi19, h⟩ := gi_inv h
    refine va_lald hx hb hK hP 6 1 rfl rfl hi19 dX3_handDown_130 ?_
    refine lv_lload hx hb dX3_handDown_131 (lv_at hl 0 rfl) ?_
    refine lv_aload_n hx hb dX3_handDown_133 rfl (lv_at hl 3 rfl) ?_
    refine va_get (D := D) (ci := 3) (v := .ref (aF 5)) (C := RX3) (T := TX3) (N := 9) hx hb hts iX3 hown hK hP 0 rfl rfl 4 (by decide) f24 (fun _ h9 => h9) rfl dX3_handDown_134 ?_
    refine lv_iload_n hx hb dX3_handDown_137 rfl (lv_at hl 1 rfl) ?_
    obtain ⟨hi20, h⟩ := gi_inv h
    refine va_lald hx hb hK hP 5 1 rfl rfl hi20 dX3_handDown_138 ?_
    refine lv_lmul hx hb dX3_handDown_139 ?_
    refine lv_ladd hx hb dX3_handDown_140 ?_
    obtain ⟨hi21, h⟩ := gi_inv h
    refine va_last hx hb hK hP hD hS 6 1 rfl rfl hi21 dX3_handDown_141 (fun H locs hP hD hS => ?_)
    replace hP : va_P D vwCl (wF k aF Fkinds Flefts Frights Fplaces Fvalues (vp_updL Fslopes ((Flefts v1.toNatClampNeg).toNatClampNeg) ((Fslopes (Flefts v1.toNatClampNeg).toNatClampNeg) + ((Fslopes v1.toNatClampNeg) * (Fvalues (Frights v1.toNatClampNeg).toNatClampNeg)))) Fexponents Fsize Froot) H := hP
    replace hD : va_D A (wF k aF Fkinds Flefts Frights Fplaces Fvalues (vp_updL Fslopes ((Flefts v1.toNatClampNeg).toNatClampNeg) ((Fslopes (Flefts v1.toNatClampNeg).toNatClampNeg) + ((Fslopes v1.toNatClampNeg) * (Fvalues (Frights v1.toNatClampNeg).toNatClampNeg)))) Fexponents Fsize Froot) := hD
    refine lv_aload_n hx hb dX3_handDown_142 rfl (lv_at hl 3 rfl) ?_
    refine va_get (D := D) (ci := 3) (v := .ref (aF 6)) (C := RX3) (T := TX3) (N := 9) hx hb hts iX3 hown hK hP 0 rfl rfl 5 (by decide) f28 (fun _ h9 => h9) rfl dX3_handDown_143 ?_
    refine lv_iload_n hx hb dX3_handDown_146 rfl (lv_at hl 1 rfl) ?_
    refine lv_dup2_11 hx hb dX3_handDown_147 rfl rfl ?_
    obtain ⟨hi22, h⟩ := gi_inv h
    refine va_lald hx hb hK hP 6 1 rfl rfl hi22 dX3_handDown_148 ?_
    refine lv_lload hx hb dX3_handDown_149 (lv_at hl 0 rfl) ?_
    refine lv_aload_n hx hb dX3_handDown_151 rfl (lv_at hl 3 rfl) ?_
    refine va_get (D := D) (ci := 3) (v := .ref (aF 5)) (C := RX3) (T := TX3) (N := 9) hx hb hts iX3 hown hK hP 0 rfl rfl 4 (by decide) f24 (fun _ h9 => h9) rfl dX3_handDown_152 ?_
    refine lv_iload_n hx hb dX3_handDown_155 rfl (lv_at hl 2 rfl) ?_
    obtain ⟨hi23, h⟩ := gi_inv h
    refine va_lald hx hb hK hP 5 1 rfl rfl hi23 dX3_handDown_156 ?_
    refine lv_lmul hx hb dX3_handDown_157 ?_
    refine lv_ladd hx hb dX3_handDown_158 ?_
    obtain ⟨hi24, h⟩ := gi_inv h
    refine va_last hx hb hK hP hD hS 6 1 rfl rfl hi24 dX3_handDown_159 (fun H locs hP hD hS => ?_)
    replace hP : va_P D vwCl (wF k aF Fkinds Flefts Frights Fplaces Fvalues (vp_updL (vp_updL Fslopes ((Flefts v1.toNatClampNeg).toNatClampNeg) ((Fslopes (Flefts v1.toNatClampNeg).toNatClampNeg) + ((Fslopes v1.toNatClampNeg) * (Fvalues (Frights v1.toNatClampNeg).toNatClampNeg)))) ((Frights v1.toNatClampNeg).toNatClampNeg) (((vp_updL Fslopes ((Flefts v1.toNatClampNeg).toNatClampNeg) ((Fslopes (Flefts v1.toNatClampNeg).toNatClampNeg) + ((Fslopes v1.toNatClampNeg) * (Fvalues (Frights v1.toNatClampNeg).toNatClampNeg)))) (Frights v1.toNatClampNeg).toNatClampNeg) + ((Fslopes v1.toNatClampNeg) * (Fvalues (Flefts v1.toNatClampNeg).toNatClampNeg)))) Fexponents Fsize Froot) H := hP
    replace hD : va_D A (wF k aF Fkinds Flefts Frights Fplaces Fvalues (vp_updL (vp_updL Fslopes ((Flefts v1.toNatClampNeg).toNatClampNeg) ((Fslopes (Flefts v1.toNatClampNeg).toNatClampNeg) + ((Fslopes v1.toNatClampNeg) * (Fvalues (Frights v1.toNatClampNeg).toNatClampNeg)))) ((Frights v1.toNatClampNeg).toNatClampNeg) (((vp_updL Fslopes ((Flefts v1.toNatClampNeg).toNatClampNeg) ((Fslopes (Flefts v1.toNatClampNeg).toNatClampNeg) + ((Fslopes v1.toNatClampNeg) * (Fvalues (Frights v1.toNatClampNeg).toNatClampNeg)))) (Frights v1.toNatClampNeg).toNatClampNeg) + ((Fslopes v1.toNatClampNeg) * (Fvalues (Flefts v1.toNatClampNeg).toNatClampNeg)))) Fexponents Fsize Froot) := hD
    refine lv_goto (tgt := 180) hx hb dX3_handDown_160 (by decide) ?_
    have hP9 := hP
    have hD9 := hD
    have hS9 := hS
    subst hQ
    cases h
    exact W.vret hx hb hr (fun t ht hW => ⟨⟨(), rfl, trivial, by rw [ht]; exact hP9, va_K.moved hW.alike hK, hD9⟩, hS9.F ht⟩) hS9.2.2 dX3_handDown_180
  replace h := sf_f c18 h
  refine lv_tableOut (tgt := 163) hx hb dX3_handDown_28 (by have z0 := lv_neT (a := 2) c5 rfl; have z1 := lv_neT (a := 3) c8 rfl; have z2 := lv_neT (a := 4) c13 rfl; have z3 := lv_neT (a := 5) c18 rfl; omega) (by decide) ?_
  refine lv_aload_n hx hb dX3_handDown_163 rfl (lv_at hl 3 rfl) ?_
  refine va_get (D := D) (ci := 3) (v := .ref (aF 6)) (C := RX3) (T := TX3) (N := 9) hx hb hts iX3 hown hK hP 0 rfl rfl 5 (by decide) f28 (fun _ h9 => h9) rfl dX3_handDown_164 ?_
  refine lv_iload_n hx hb dX3_handDown_167 rfl (lv_at hl 2 rfl) ?_
  refine lv_dup2_11 hx hb dX3_handDown_168 rfl rfl ?_
  obtain ⟨hi25, h⟩ := gi_inv h
  refine va_lald hx hb hK hP 6 1 rfl rfl hi25 dX3_handDown_169 ?_
  refine lv_lload hx hb dX3_handDown_170 (lv_at hl 0 rfl) ?_
  refine lv_aload_n hx hb dX3_handDown_172 rfl (lv_at hl 3 rfl) ?_
  refine lv_iload_n hx hb dX3_handDown_173 rfl (lv_at hl 4 rfl) ?_
  obtain ⟨r26, hc26, h⟩ := bnd1_inv h
  have hFc := va_free (wc := (wF k aF Fkinds Flefts Frights Fplaces Fvalues Fslopes Fexponents Fsize Froot)) hD hS hA [0, 1, 2, 3, 4, 5, 6, 7] rfl
  refine xc_l (va_runV (As := [.int v1]) (rest := [.long (Fslopes v1.toNatClampNeg), .long (Fslopes (Flefts v1.toNatClampNeg).toNatClampNeg), .int (Flefts v1.toNatClampNeg), .ref (aF 6)]) ⟨hx, hb, hml, hown, hts⟩ (met_X3_powerSlope l D k  aF H.size Fkinds Flefts Frights Fplaces Fvalues Fslopes Fexponents Fsize Froot v1 r26 hc26) (cwV 1 hts gX3_handDown_X3_powerSlope rfl rfl rfl (by decide +kernel) ⟨Nat.le_of_ble_eq_true rfl, Nat.le_of_ble_eq_true rfl⟩) ⟨pw_blind, va_recv hK hP (ci := 3) (q0 := 0) rfl rfl, pw_start hP hK hD⟩ rfl rfl hl.1 rfl (lv_room (Nat.le_of_ble_eq_true rfl)) dX3_handDown_174 ⟨Nat.zero_le _, Nat.zero_le _⟩) hS hFc (fun H1 locs hP1 hD1 hk1 hS => ?_)
  obtain ⟨hP, hD⟩ := vj_all hFc hP1 hD1
  clear hP1 hD1 hk1 hFc
  generalize H1 = H at hP hS ⊢
  refine lv_lmul hx hb dX3_handDown_177 ?_
  refine lv_ladd hx hb dX3_handDown_178 ?_
  obtain ⟨hi27, h⟩ := gi_inv h
  refine va_last hx hb hK hP hD hS 6 1 rfl rfl hi27 dX3_handDown_179 (fun H locs hP hD hS => ?_)
  replace hP : va_P D vwCl (wF k aF Fkinds Flefts Frights Fplaces Fvalues (vp_updL Fslopes ((Flefts v1.toNatClampNeg).toNatClampNeg) ((Fslopes (Flefts v1.toNatClampNeg).toNatClampNeg) + ((Fslopes v1.toNatClampNeg) * r26))) Fexponents Fsize Froot) H := hP
  replace hD : va_D A (wF k aF Fkinds Flefts Frights Fplaces Fvalues (vp_updL Fslopes ((Flefts v1.toNatClampNeg).toNatClampNeg) ((Fslopes (Flefts v1.toNatClampNeg).toNatClampNeg) + ((Fslopes v1.toNatClampNeg) * r26))) Fexponents Fsize Froot) := hD
  have hP9 := hP
  have hD9 := hD
  have hS9 := hS
  subst hQ
  cases h
  exact W.vret hx hb hr (fun t ht hW => ⟨⟨(), rfl, trivial, by rw [ht]; exact hP9, va_K.moved hW.alike hK, hD9⟩, hS9.F ht⟩) hS9.2.2 dX3_handDown_180
def LX3_slopesBackward_36 (Fkinds : Nat → Int32) (Flefts : Nat → Int32) (Frights : Nat → Int32) (Fsize : Int32) (Froot : Int32) (uA : Nat → Int32) (E90 : (Nat → Int64) → (Nat → Int64) → (Nat → Int64) → Option ((Nat → Int64) × (Nat → Int64) × (Nat → Int64))) : Nat → Int32 → (Nat → Int64) → (Nat → Int64) → (Nat → Int64) → Option ((Nat → Int64) × (Nat → Int64) × (Nat → Int64))
  | 0, _, _, _, _ => none
  | fuel + 1, v3, Fvalues, Fslopes, wA => (if v3 < 0 then E90 Fvalues Fslopes wA else gi v3 60 ((if (Fkinds v3.toNatClampNeg) = 1 then gi v3 60 (gi (Flefts v3.toNatClampNeg) 6 (gi v3 60 (gi (Flefts v3.toNatClampNeg) 6 (LX3_slopesBackward_36 Fkinds Flefts Frights Fsize Froot uA E90 fuel (v3 + (-1)) Fvalues Fslopes (vp_updL wA ((Flefts v3.toNatClampNeg).toNatClampNeg) ((wA (Flefts v3.toNatClampNeg).toNatClampNeg) + (Fslopes v3.toNatClampNeg))))))) else gi v3 60 ((if (Fkinds v3.toNatClampNeg) = 0 then LX3_slopesBackward_36 Fkinds Flefts Frights Fsize Froot uA E90 fuel (v3 + (-1)) Fvalues Fslopes wA else bnd1 (fX3_handDown v3 Fkinds Flefts Frights Fvalues Fslopes) (fun slopes_10 => LX3_slopesBackward_36 Fkinds Flefts Frights Fsize Froot uA E90 fuel (v3 + (-1)) Fvalues slopes_10 wA))))))
def fX3_slopesBackward (Fkinds : Nat → Int32) (Flefts : Nat → Int32) (Frights : Nat → Int32) (Fvalues : Nat → Int64) (Fslopes : Nat → Int64) (Fsize : Int32) (Froot : Int32) (uA : Nat → Int32) (wA : Nat → Int64) : Option ((Nat → Int64) × (Nat → Int64) × (Nat → Int64)) := bnd2 (fX3_reckonBy Fkinds Flefts Frights Fvalues Fsize Froot uA) (fun r1 values_1 => bnd1 (fJ7_fill_d0a16_n6 0 wA) (fun v_2 => bnd1 (fJ7_fill_d0a16_n60 0 Fslopes) (fun v_3 => gi Froot 60 (LX3_slopesBackward_36 Fkinds Flefts Frights Fsize Froot uA (fun (Fvalues : Nat → Int64) (Fslopes : Nat → Int64) (wA : Nat → Int64) => some (Fvalues, Fslopes, wA)) 1000 (Fsize - 1) values_1 (vp_updL v_3 (Froot.toNatClampNeg) 1) v_2))))
abbrev rmX3_slopesBackward : Room := { frames := 3, cells := 0, slots := 0, locals := 72 }
set_option maxHeartbeats 4000000 in
set_option maxRecDepth 100000 in
theorem met_X3_slopesBackward (l : Launch) (D : va_G) (k : Nat → ClassId)  (aF : Nat → Nat) (qu : Nat) (qw : Nat) (sz : Nat) (Fkinds : Nat → Int32) (Flefts : Nat → Int32) (Frights : Nat → Int32) (Fplaces : Nat → Int32) (Fvalues : Nat → Int64) (Fslopes : Nat → Int64) (Fexponents : Nat → Int32) (Fsize : Int32) (Froot : Int32) (uA : Nat → Int32) (wA : Nat → Int64)  (RFvalues : Nat → Int64) (RFslopes : Nat → Int64) (RwA : Nat → Int64) (h : fX3_slopesBackward Fkinds Flefts Frights Fvalues Fslopes Fsize Froot uA wA = some (RFvalues, RFslopes, RwA)) : Met l yX3_slopesBackward wsX3_slopesBackward rmX3_slopesBackward (va_Pc [.ref (aF 0), .ref qu, .ref qw] (PreW D k ((wF k aF Fkinds Flefts Frights Fplaces Fvalues Fslopes Fexponents Fsize Froot) ++ ([(qu, .inl (k 0, 6, .inl uA))]) ++ ([(qw, .inl (k 1, 6, .inr (.inl wA)))])) sz)) (va_Qv (fun _ : Unit => True) (fun _ t => PostW D k (va_A ((wF k aF Fkinds Flefts Frights Fplaces Fvalues Fslopes Fexponents Fsize Froot) ++ ([(qu, .inl (k 0, 6, .inl uA))]) ++ ([(qw, .inl (k 1, 6, .inr (.inl wA)))])) sz) ((wF k aF Fkinds Flefts Frights Fplaces RFvalues RFslopes Fexponents Fsize Froot) ++ ([(qu, .inl (k 0, 6, .inl uA))]) ++ ([(qw, .inl (k 1, 6, .inr (.inl RwA)))])) t) (va_A ((wF k aF Fkinds Flefts Frights Fplaces Fvalues Fslopes Fexponents Fsize Froot) ++ ([(qu, .inl (k 0, 6, .inl uA))]) ++ ([(qw, .inl (k 1, 6, .inr (.inl wA)))])) sz)) 0 0 (va_A ((wF k aF Fkinds Flefts Frights Fplaces Fvalues Fslopes Fexponents Fsize Froot) ++ ([(qu, .inl (k 0, 6, .inl uA))]) ++ ([(qw, .inl (k 1, 6, .inr (.inl wA)))])) sz) := by
  refine Met.ofW (cc := cX3_slopesBackward) (maxL := 4) (ret := none) (by decide) rfl ?_
  intro p e s m args below meth c s₁ B hml hv
  obtain ⟨hav, hsz, hP, hK, hD0⟩ := hv
  have hx := B.exec
  have hb := B.bytes
  have hr := B.returns
  have hts := atoms_spec (ws := wsX3_slopesBackward) B.pre
  have hown : s.vm.findClass RX3 = some m.cls := findClass_of_methodNamed B.named
  have hlocks := B.notSynchronized
  subst hsz
  have hD := hD0.self (sz := s.heap.size)
  clear hD0
  generalize hAe : va_A ((wF k aF Fkinds Flefts Frights Fplaces Fvalues Fslopes Fexponents Fsize Froot) ++ ([(qu, .inl (k 0, 6, .inl uA))]) ++ ([(qw, .inl (k 1, 6, .inr (.inl wA)))])) s.heap.size = A at hD ⊢
  have hA : ∀ q : Nat, s.heap.size ≤ q → A q := fun q h => by rw [← hAe]; exact Or.inr h
  have hS : va_S A s.heap s.heap [] := va_S.rf
  have hl := lv_entry ([.ref (aF 0), .ref qu, .ref qw]) (n := 4) (Nat.le_of_ble_eq_true rfl)
  rw [show entryFrame m args 4 = entryFrame m ([.ref (aF 0), .ref qu, .ref qw] : List Value).toArray 4 from by rw [hav], lg_entry_eq]
  generalize (lg_sl ([.ref (aF 0), .ref qu, .ref qw]) ++ List.replicate (4 - (lg_sl ([.ref (aF 0), .ref qu, .ref qw])).length) Slot.unset).toArray = ls at hl ⊢
  replace hl : lv_has ls 4 [(0, .ref (aF 0)), (1, .ref qu), (2, .ref qw)] := hl
  have f9 := hts (.fieldLink RX3 9 "UncertainBook$Formula" "kinds" "[I") (by decide +kernel)
  have f15 := hts (.fieldLink RX3 15 "UncertainBook$Formula" "lefts" "[I") (by decide +kernel)
  have f28 := hts (.fieldLink RX3 28 "UncertainBook$Formula" "slopes" "[J") (by decide +kernel)
  have f34 := hts (.fieldLink RX3 34 "UncertainBook$Formula" "size" "I") (by decide +kernel)
  have f38 := hts (.fieldLink RX3 38 "UncertainBook$Formula" "root" "I") (by decide +kernel)
  have iX3 : ∀ w ∈ u_ws RX3 TX3 9, w ∈ wsX3_slopesBackward := by decide +kernel
  refine w_q (fun Q hQ => ?_)
  unfold fX3_slopesBackward at h
  show W p l e rmX3_slopesBackward s m args below meth c s.heap [] 0 0 Q (F0 m 0 ls [])
  have LH_36 : ∀ (E90 : (Nat → Int64) → (Nat → Int64) → (Nat → Int64) → Option ((Nat → Int64) × (Nat → Int64) × (Nat → Int64))) (hE90 : ∀ (Fvalues : Nat → Int64) (Fslopes : Nat → Int64) (wA : Nat → Int64), E90 Fvalues Fslopes wA = some (RFvalues, RFslopes, RwA) → ∀ (H : Heap) (locs : List Loc) (ls : Array Slot), va_P D vwCl ((wF k aF Fkinds Flefts Frights Fplaces Fvalues Fslopes Fexponents Fsize Froot) ++ ([(qu, .inl (k 0, 6, .inl uA))]) ++ ([(qw, .inl (k 1, 6, .inr (.inl wA)))])) H → va_D A ((wF k aF Fkinds Flefts Frights Fplaces Fvalues Fslopes Fexponents Fsize Froot) ++ ([(qu, .inl (k 0, 6, .inl uA))]) ++ ([(qw, .inl (k 1, 6, .inr (.inl wA)))])) → va_S A s.heap H locs → lv_has ls 4 [] → W p l e rmX3_slopesBackward s m args below meth c H locs 0 0 Q (F0 m 90 ls [])) (n : Nat) (v3 : Int32) (Fvalues : Nat → Int64) (Fslopes : Nat → Int64) (wA : Nat → Int64), LX3_slopesBackward_36 Fkinds Flefts Frights Fsize Froot uA E90 n v3 Fvalues Fslopes wA = some (RFvalues, RFslopes, RwA) → ∀ (H : Heap) (locs : List Loc) (ls : Array Slot), va_P D vwCl ((wF k aF Fkinds Flefts Frights Fplaces Fvalues Fslopes Fexponents Fsize Froot) ++ ([(qu, .inl (k 0, 6, .inl uA))]) ++ ([(qw, .inl (k 1, 6, .inr (.inl wA)))])) H → va_D A ((wF k aF Fkinds Flefts Frights Fplaces Fvalues Fslopes Fexponents Fsize Froot) ++ ([(qu, .inl (k 0, 6, .inl uA))]) ++ ([(qw, .inl (k 1, 6, .inr (.inl wA)))])) → va_S A s.heap H locs → lv_has ls 4 [(0, .ref (aF 0)), (2, .ref qw), (3, .int v3)] → W p l e rmX3_slopesBackward s m args below meth c H locs 0 0 Q (F0 m 36 ls []) := by
    intro E90 hE90 n
    induction n with
    | zero => intro v3 Fvalues Fslopes wA h; simp [LX3_slopesBackward_36] at h
    | succ n ih =>
    intro v3 Fvalues Fslopes wA h H locs ls hP hD hS hl
    rw [LX3_slopesBackward_36] at h
    refine lv_iload_n hx hb dX3_slopesBackward_36 rfl (lv_at hl 2 rfl) ?_
    refine lv_if_lt (tgt := 90) hx hb dX3_slopesBackward_37 (by decide) (fun c5 => ?_) (fun c5 => ?_)
    · replace h := sf_t c5 h
      exact hE90 _ _ _ h _ _ _ hP hD hS (lv_sub hl [] rfl)
    · replace h := sf_f c5 h
      refine lv_aload_n hx hb dX3_slopesBackward_40 rfl (lv_at hl 0 rfl) ?_
      refine va_get (D := D) (ci := 3) (v := .ref (aF 1)) (C := RX3) (T := TX3) (N := 9) hx hb hts iX3 hown hK hP 0 rfl rfl 0 (by decide) f9 (fun _ h9 => h9) rfl dX3_slopesBackward_41 ?_
      refine lv_iload_n hx hb dX3_slopesBackward_44 rfl (lv_at hl 2 rfl) ?_
      obtain ⟨hi6, h⟩ := gi_inv h
      refine va_iald hx hb hK hP 1 0 rfl rfl hi6 dX3_slopesBackward_45 ?_
      refine lv_iconst (v := 1) hx hb dX3_slopesBackward_46 (by decide) ?_
      refine lv_icmp_ne (tgt := 70) hx hb dX3_slopesBackward_47 (by decide) (fun c7 => ?_) (fun c7 => ?_)
      · replace h := sf_f c7 h
        refine lv_aload_n hx hb dX3_slopesBackward_70 rfl (lv_at hl 0 rfl) ?_
        refine va_get (D := D) (ci := 3) (v := .ref (aF 1)) (C := RX3) (T := TX3) (N := 9) hx hb hts iX3 hown hK hP 0 rfl rfl 0 (by decide) f9 (fun _ h9 => h9) rfl dX3_slopesBackward_71 ?_
        refine lv_iload_n hx hb dX3_slopesBackward_74 rfl (lv_at hl 2 rfl) ?_
        obtain ⟨hi8, h⟩ := gi_inv h
        refine va_iald hx hb hK hP 1 0 rfl rfl hi8 dX3_slopesBackward_75 ?_
        refine lv_if_eq (tgt := 84) hx hb dX3_slopesBackward_76 (by decide) (fun c9 => ?_) (fun c9 => ?_)
        · replace h := sf_t c9 h
          refine lv_iinc (v := v3 + (-1)) (lv' := [(3, .int (v3 + (-1))), (0, .ref (aF 0)), (2, .ref qw)]) hx hb dX3_slopesBackward_84 hl (k := 2) rfl rfl (by decide) rfl (fun ls hl => ?_)
          refine lv_goto (tgt := 36) hx hb dX3_slopesBackward_87 (by decide) ?_
          exact ih _ _ _ _ h _ _ _ hP hD hS (lv_sub hl [1, 2, 0] rfl)
        · replace h := sf_f c9 h
          refine lv_aload_n hx hb dX3_slopesBackward_79 rfl (lv_at hl 0 rfl) ?_
          refine lv_iload_n hx hb dX3_slopesBackward_80 rfl (lv_at hl 2 rfl) ?_
          obtain ⟨slopes_10, hc10, h⟩ := bnd1_inv h
          have hPc := hP.sub (ws' := (wF k aF Fkinds Flefts Frights Fplaces Fvalues Fslopes Fexponents Fsize Froot)) [0, 1, 2, 3, 4, 5, 6, 7] rfl
          have hDc := hD.sub (ws' := (wF k aF Fkinds Flefts Frights Fplaces Fvalues Fslopes Fexponents Fsize Froot)) [0, 1, 2, 3, 4, 5, 6, 7] rfl rfl
          have hFc := va_free (wc := (wF k aF Fkinds Flefts Frights Fplaces Fvalues Fslopes Fexponents Fsize Froot)) hD hS hA [0, 1, 2, 3, 4, 5, 6, 7] rfl
          refine xc_v (va_runV (As := [.int v3]) (rest := []) ⟨hx, hb, hml, hown, hts⟩ (met_X3_handDown l D k  aF H.size Fkinds Flefts Frights Fplaces Fvalues Fslopes Fexponents Fsize Froot v3 slopes_10 hc10) (cwV 1 hts gX3_slopesBackward_X3_handDown rfl rfl rfl (by decide +kernel) ⟨Nat.le_of_ble_eq_true rfl, Nat.le_of_ble_eq_true rfl⟩) ⟨pw_blind, va_recv hK hPc (ci := 3) (q0 := 0) rfl rfl, pw_start hPc hK hDc⟩ rfl rfl hl.1 rfl (lv_room (Nat.le_of_ble_eq_true rfl)) dX3_slopesBackward_81 ⟨Nat.zero_le _, Nat.zero_le _⟩) hS hFc (fun H1 locs hP1 hD1 hk1 hS => ?_)
          obtain ⟨hP, hD⟩ := vj (ws' := ((wF k aF Fkinds Flefts Frights Fplaces Fvalues slopes_10 Fexponents Fsize Froot) ++ ([(qu, .inl (k 0, 6, .inl uA))]) ++ ([(qw, .inl (k 1, 6, .inr (.inl wA)))]))) (w1 := (wF k aF Fkinds Flefts Frights Fplaces Fvalues slopes_10 Fexponents Fsize Froot)) hP hD [0, 1, 2, 3, 4, 5, 6, 7] [8, 9] [2, 3, 4, 5, 6, 7, 8, 9, 0, 1] rfl rfl rfl rfl rfl hk1 hFc hP1 hD1
          clear hP1 hD1 hk1 hFc
          generalize H1 = H at hP hS ⊢
          refine lv_iinc (v := v3 + (-1)) (lv' := [(3, .int (v3 + (-1))), (0, .ref (aF 0)), (2, .ref qw)]) hx hb dX3_slopesBackward_84 hl (k := 2) rfl rfl (by decide) rfl (fun ls hl => ?_)
          refine lv_goto (tgt := 36) hx hb dX3_slopesBackward_87 (by decide) ?_
          exact ih _ _ _ _ h _ _ _ hP hD hS (lv_sub hl [1, 2, 0] rfl)
      · replace h := sf_t c7 h
        refine lv_aload_n hx hb dX3_slopesBackward_50 rfl (lv_at hl 1 rfl) ?_
        refine lv_aload_n hx hb dX3_slopesBackward_51 rfl (lv_at hl 0 rfl) ?_
        refine va_get (D := D) (ci := 3) (v := .ref (aF 2)) (C := RX3) (T := TX3) (N := 9) hx hb hts iX3 hown hK hP 0 rfl rfl 1 (by decide) f15 (fun _ h9 => h9) rfl dX3_slopesBackward_52 ?_
        refine lv_iload_n hx hb dX3_slopesBackward_55 rfl (lv_at hl 2 rfl) ?_
        obtain ⟨hi11, h⟩ := gi_inv h
        refine va_iald hx hb hK hP 2 0 rfl rfl hi11 dX3_slopesBackward_56 ?_
        refine lv_dup2_11 hx hb dX3_slopesBackward_57 rfl rfl ?_
        obtain ⟨hi12, h⟩ := gi_inv h
        refine va_lald hx hb hK hP 9 1 rfl rfl hi12 dX3_slopesBackward_58 ?_
        refine lv_aload_n hx hb dX3_slopesBackward_59 rfl (lv_at hl 0 rfl) ?_
        refine va_get (D := D) (ci := 3) (v := .ref (aF 6)) (C := RX3) (T := TX3) (N := 9) hx hb hts iX3 hown hK hP 0 rfl rfl 5 (by decide) f28 (fun _ h9 => h9) rfl dX3_slopesBackward_60 ?_
        refine lv_iload_n hx hb dX3_slopesBackward_63 rfl (lv_at hl 2 rfl) ?_
        obtain ⟨hi13, h⟩ := gi_inv h
        refine va_lald hx hb hK hP 6 1 rfl rfl hi13 dX3_slopesBackward_64 ?_
        refine lv_ladd hx hb dX3_slopesBackward_65 ?_
        obtain ⟨hi14, h⟩ := gi_inv h
        refine va_last hx hb hK hP hD hS 9 1 rfl rfl hi14 dX3_slopesBackward_66 (fun H locs hP hD hS => ?_)
        replace hP : va_P D vwCl ((wF k aF Fkinds Flefts Frights Fplaces Fvalues Fslopes Fexponents Fsize Froot) ++ ([(qu, .inl (k 0, 6, .inl uA))]) ++ ([(qw, .inl (k 1, 6, .inr (.inl (vp_updL wA ((Flefts v3.toNatClampNeg).toNatClampNeg) ((wA (Flefts v3.toNatClampNeg).toNatClampNeg) + (Fslopes v3.toNatClampNeg))))))])) H := hP
        replace hD : va_D A ((wF k aF Fkinds Flefts Frights Fplaces Fvalues Fslopes Fexponents Fsize Froot) ++ ([(qu, .inl (k 0, 6, .inl uA))]) ++ ([(qw, .inl (k 1, 6, .inr (.inl (vp_updL wA ((Flefts v3.toNatClampNeg).toNatClampNeg) ((wA (Flefts v3.toNatClampNeg).toNatClampNeg) + (Fslopes v3.toNatClampNeg))))))])) := hD
        refine lv_goto (tgt := 84) hx hb dX3_slopesBackward_67 (by decide) ?_
        refine lv_iinc (v := v3 + (-1)) (lv' := [(3, .int (v3 + (-1))), (0, .ref (aF 0)), (2, .ref qw)]) hx hb dX3_slopesBackward_84 hl (k := 2) rfl rfl (by decide) rfl (fun ls hl => ?_)
        refine lv_goto (tgt := 36) hx hb dX3_slopesBackward_87 (by decide) ?_
        exact ih _ _ _ _ h _ _ _ hP hD hS (lv_sub hl [1, 2, 0] rfl)
  suffices main : ∀ (H : Heap) (locs : List Loc) (ls : Array Slot), va_P D vwCl ((wF k aF Fkinds Flefts Frights Fplaces Fvalues Fslopes Fexponents Fsize Froot) ++ ([(qu, .inl (k 0, 6, .inl uA))]) ++ ([(qw, .inl (k 1, 6, .inr (.inl wA)))])) H → va_D A ((wF k aF Fkinds Flefts Frights Fplaces Fvalues Fslopes Fexponents Fsize Froot) ++ ([(qu, .inl (k 0, 6, .inl uA))]) ++ ([(qw, .inl (k 1, 6, .inr (.inl wA)))])) → va_S A s.heap H locs → lv_has ls 4 [(0, .ref (aF 0)), (1, .ref qu), (2, .ref qw)] → W p l e rmX3_slopesBackward s m args below meth c H locs 0 0 Q (F0 m 0 ls []) from main _ _ _ hP hD hS hl
  clear hP hD hS hl ls hAe
  intro H locs ls hP hD hS hl
  refine lv_aload_n hx hb dX3_slopesBackward_0 rfl (lv_at hl 0 rfl) ?_
  refine lv_aload_n hx hb dX3_slopesBackward_1 rfl (lv_at hl 1 rfl) ?_
  obtain ⟨r1, values_1, hc1, h⟩ := bnd2_inv h
  have hPc := hP.sub (ws' := ((wF k aF Fkinds Flefts Frights Fplaces Fvalues Fslopes Fexponents Fsize Froot) ++ ([(qu, .inl (k 0, 6, .inl uA))]))) [0, 1, 2, 3, 4, 5, 6, 7, 8] rfl
  have hDc := hD.sub (ws' := ((wF k aF Fkinds Flefts Frights Fplaces Fvalues Fslopes Fexponents Fsize Froot) ++ ([(qu, .inl (k 0, 6, .inl uA))]))) [0, 1, 2, 3, 4, 5, 6, 7, 8] rfl rfl
  have hFc := va_free (wc := ((wF k aF Fkinds Flefts Frights Fplaces Fvalues Fslopes Fexponents Fsize Froot) ++ ([(qu, .inl (k 0, 6, .inl uA))]))) hD hS hA [0, 1, 2, 3, 4, 5, 6, 7, 8] rfl
  refine xc_l (va_runV (As := [.ref qu]) (rest := []) ⟨hx, hb, hml, hown, hts⟩ (met_X3_reckonBy l D k  aF qu H.size Fkinds Flefts Frights Fplaces Fvalues Fslopes Fexponents Fsize Froot uA r1 values_1 hc1) (cwV 1 hts gX3_slopesBackward_X3_reckonBy rfl rfl rfl (by decide +kernel) ⟨Nat.le_of_ble_eq_true rfl, Nat.le_of_ble_eq_true rfl⟩) ⟨pw_blind, va_recv hK hPc (ci := 3) (q0 := 0) rfl rfl, pw_start hPc hK hDc⟩ rfl rfl hl.1 rfl (lv_room (Nat.le_of_ble_eq_true rfl)) dX3_slopesBackward_2 ⟨Nat.zero_le _, Nat.zero_le _⟩) hS hFc (fun H1 locs hP1 hD1 hk1 hS => ?_)
  obtain ⟨hP, hD⟩ := vj (ws' := ((wF k aF Fkinds Flefts Frights Fplaces values_1 Fslopes Fexponents Fsize Froot) ++ ([(qu, .inl (k 0, 6, .inl uA))]) ++ ([(qw, .inl (k 1, 6, .inr (.inl wA)))]))) (w1 := ((wF k aF Fkinds Flefts Frights Fplaces values_1 Fslopes Fexponents Fsize Froot) ++ ([(qu, .inl (k 0, 6, .inl uA))]))) hP hD [0, 1, 2, 3, 4, 5, 6, 7, 8] [9] [1, 2, 3, 4, 5, 6, 7, 8, 9, 0] rfl rfl rfl rfl rfl hk1 hFc hP1 hD1
  clear hP1 hD1 hk1 hFc
  generalize H1 = H at hP hS ⊢
  refine lv_pop2_2 hx hb dX3_slopesBackward_5 rfl ?_
  refine lv_aload_n hx hb dX3_slopesBackward_6 rfl (lv_at hl 2 rfl) ?_
  refine lv_lconst (v := 0) hx hb dX3_slopesBackward_7 (by decide) ?_
  obtain ⟨v_2, hc2, h⟩ := bnd1_inv h
  have hPc := hP.sub (ws' := ([(qw, .inl (k 1, 6, .inr (.inl wA)))])) [9] rfl
  have hDc := hD.sub (ws' := ([(qw, .inl (k 1, 6, .inr (.inl wA)))])) [9] rfl rfl
  have hFc := va_free (wc := ([(qw, .inl (k 1, 6, .inr (.inl wA)))])) hD hS hA [9] rfl
  refine xc_v (va_runS (As := [.ref qw, .long 0]) (rest := []) ⟨hx, hb, hml, hown, hts⟩ (met_J7_fill_d0a16_n6 l D k  qw H.size wA 0 v_2 hc2) (va_cwS 2 hts gX3_slopesBackward_J7_fill_d0a16 rfl rfl rfl (by decide +kernel) ⟨Nat.le_of_ble_eq_true rfl, Nat.le_of_ble_eq_true rfl⟩) ⟨pw_blind, pw_start hPc hK hDc⟩ rfl rfl hl.1 rfl (lv_room (Nat.le_of_ble_eq_true rfl)) dX3_slopesBackward_8 ⟨Nat.zero_le _, Nat.zero_le _⟩) hS hFc (fun H1 locs hP1 hD1 hk1 hS => ?_)
  obtain ⟨hP, hD⟩ := vj (ws' := ((wF k aF Fkinds Flefts Frights Fplaces values_1 Fslopes Fexponents Fsize Froot) ++ ([(qu, .inl (k 0, 6, .inl uA))]) ++ ([(qw, .inl (k 1, 6, .inr (.inl v_2)))]))) (w1 := ([(qw, .inl (k 1, 6, .inr (.inl v_2)))])) hP hD [9] [0, 1, 2, 3, 4, 5, 6, 7, 8] [0, 1, 2, 3, 4, 5, 6, 7, 8, 9] rfl rfl rfl rfl rfl hk1 hFc hP1 hD1
  clear hP1 hD1 hk1 hFc
  generalize H1 = H at hP hS ⊢
  refine lv_aload_n hx hb dX3_slopesBackward_11 rfl (lv_at hl 0 rfl) ?_
  refine va_get (D := D) (ci := 3) (v := .ref (aF 6)) (C := RX3) (T := TX3) (N := 9) hx hb hts iX3 hown hK hP 0 rfl rfl 5 (by decide) f28 (fun _ h9 => h9) rfl dX3_slopesBackward_12 ?_
  refine lv_lconst (v := 0) hx hb dX3_slopesBackward_15 (by decide) ?_
  obtain ⟨v_3, hc3, h⟩ := bnd1_inv h
  have hPc := hP.sub (ws' := ([(aF 6, .inl (k 1, 60, .inr (.inl Fslopes)))])) [6] rfl
  have hDc := hD.sub (ws' := ([(aF 6, .inl (k 1, 60, .inr (.inl Fslopes)))])) [6] rfl rfl
  have hFc := va_free (wc := ([(aF 6, .inl (k 1, 60, .inr (.inl Fslopes)))])) hD hS hA [6] rfl
  refine xc_v (va_runS (As := [.ref (aF 6), .long 0]) (rest := []) ⟨hx, hb, hml, hown, hts⟩ (met_J7_fill_d0a16_n60 l D k  (aF 6) H.size Fslopes 0 v_3 hc3) (va_cwS 2 hts gX3_slopesBackward_J7_fill_d0a16 rfl rfl rfl (by decide +kernel) ⟨Nat.le_of_ble_eq_true rfl, Nat.le_of_ble_eq_true rfl⟩) ⟨pw_blind, pw_start hPc hK hDc⟩ rfl rfl hl.1 rfl (lv_room (Nat.le_of_ble_eq_true rfl)) dX3_slopesBackward_16 ⟨Nat.zero_le _, Nat.zero_le _⟩) hS hFc (fun H1 locs hP1 hD1 hk1 hS => ?_)
  obtain ⟨hP, hD⟩ := vj (ws' := ((wF k aF Fkinds Flefts Frights Fplaces values_1 v_3 Fexponents Fsize Froot) ++ ([(qu, .inl (k 0, 6, .inl uA))]) ++ ([(qw, .inl (k 1, 6, .inr (.inl v_2)))]))) (w1 := ([(aF 6, .inl (k 1, 60, .inr (.inl v_3)))])) hP hD [6] [0, 1, 2, 3, 4, 5, 7, 8, 9] [0, 1, 2, 3, 4, 5, 9, 6, 7, 8] rfl rfl rfl rfl rfl hk1 hFc hP1 hD1
  clear hP1 hD1 hk1 hFc
  generalize H1 = H at hP hS ⊢
  refine lv_aload_n hx hb dX3_slopesBackward_19 rfl (lv_at hl 0 rfl) ?_
  refine va_get (D := D) (ci := 3) (v := .ref (aF 6)) (C := RX3) (T := TX3) (N := 9) hx hb hts iX3 hown hK hP 0 rfl rfl 5 (by decide) f28 (fun _ h9 => h9) rfl dX3_slopesBackward_20 ?_
  refine lv_aload_n hx hb dX3_slopesBackward_23 rfl (lv_at hl 0 rfl) ?_
  refine va_get (D := D) (ci := 3) (v := .int Froot) (C := RX3) (T := TX3) (N := 9) hx hb hts iX3 hown hK hP 0 rfl rfl 8 (by decide) f38 (fun _ h9 => h9) rfl dX3_slopesBackward_24 ?_
  refine lv_lconst (v := 1) hx hb dX3_slopesBackward_27 (by decide) ?_
  obtain ⟨hi4, h⟩ := gi_inv h
  refine va_last hx hb hK hP hD hS 6 1 rfl rfl hi4 dX3_slopesBackward_28 (fun H locs hP hD hS => ?_)
  replace hP : va_P D vwCl ((wF k aF Fkinds Flefts Frights Fplaces values_1 (vp_updL v_3 (Froot.toNatClampNeg) 1) Fexponents Fsize Froot) ++ ([(qu, .inl (k 0, 6, .inl uA))]) ++ ([(qw, .inl (k 1, 6, .inr (.inl v_2)))])) H := hP
  replace hD : va_D A ((wF k aF Fkinds Flefts Frights Fplaces values_1 (vp_updL v_3 (Froot.toNatClampNeg) 1) Fexponents Fsize Froot) ++ ([(qu, .inl (k 0, 6, .inl uA))]) ++ ([(qw, .inl (k 1, 6, .inr (.inl v_2)))])) := hD
  refine lv_aload_n hx hb dX3_slopesBackward_29 rfl (lv_at hl 0 rfl) ?_
  refine va_get (D := D) (ci := 3) (v := .int Fsize) (C := RX3) (T := TX3) (N := 9) hx hb hts iX3 hown hK hP 0 rfl rfl 7 (by decide) f34 (fun _ h9 => h9) rfl dX3_slopesBackward_30 ?_
  refine lv_iconst (v := 1) hx hb dX3_slopesBackward_33 (by decide) ?_
  refine lv_isub hx hb dX3_slopesBackward_34 ?_
  refine lv_istore_n (lv' := [(3, .int (Fsize - 1)), (0, .ref (aF 0)), (1, .ref qu), (2, .ref qw)]) hx hb dX3_slopesBackward_35 rfl hl (by decide) rfl (fun ls hl => ?_)
  refine LH_36 _ (fun Fvalues Fslopes wA h H locs ls hP hD hS hl => ?_) _ _ _ _ _ h _ _ _ hP hD hS (lv_sub hl [1, 3, 0] rfl)
  · skip
    have hP9 := hP
    have hD9 := hD
    have hS9 := hS
    subst hQ
    cases h
    exact W.vret hx hb hr (fun t ht hW => ⟨⟨(), rfl, trivial, by rw [ht]; exact hP9, va_K.moved hW.alike hK, hD9⟩, hS9.F ht⟩) hS9.2.2 dX3_slopesBackward_90
def BX3_exponentOfPart_95 (Fkinds : Nat → Int32) (Flefts : Nat → Int32) (Frights : Nat → Int32) (Fexponents : Nat → Int32) (uA : Nat → Int32) (v1 : Int32)  (v3 : Int32) : Option (Int32) := gi v3 60 (some (Fexponents v3.toNatClampNeg))
def fX3_exponentOfPart (v1 : Int32) (Fkinds : Nat → Int32) (Flefts : Nat → Int32) (Frights : Nat → Int32) (Fexponents : Nat → Int32) (uA : Nat → Int32) : Option (Int32) := gi v1 60 (gi v1 60 (gi v1 60 ((if (Fkinds v1.toNatClampNeg) = 0 then some (0) else if (Fkinds v1.toNatClampNeg) = 1 then gi (Flefts v1.toNatClampNeg) 6 (some (uA (Flefts v1.toNatClampNeg).toNatClampNeg)) else if (Fkinds v1.toNatClampNeg) = 2 then BX3_exponentOfPart_95 Fkinds Flefts Frights Fexponents uA v1 (Flefts v1.toNatClampNeg) else if (Fkinds v1.toNatClampNeg) = 3 then BX3_exponentOfPart_95 Fkinds Flefts Frights Fexponents uA v1 (Flefts v1.toNatClampNeg) else if (Fkinds v1.toNatClampNeg) = 4 then BX3_exponentOfPart_95 Fkinds Flefts Frights Fexponents uA v1 (Flefts v1.toNatClampNeg) else if (Fkinds v1.toNatClampNeg) = 5 then gi (Flefts v1.toNatClampNeg) 60 (gi (Frights v1.toNatClampNeg) 60 (some ((Fexponents (Flefts v1.toNatClampNeg).toNatClampNeg) + (Fexponents (Frights v1.toNatClampNeg).toNatClampNeg)))) else if (Fkinds v1.toNatClampNeg) = 6 then gi (Flefts v1.toNatClampNeg) 60 (some ((Fexponents (Flefts v1.toNatClampNeg).toNatClampNeg) * (Frights v1.toNatClampNeg))) else BX3_exponentOfPart_95 Fkinds Flefts Frights Fexponents uA v1 (Flefts v1.toNatClampNeg)))))
abbrev rmX3_exponentOfPart : Room := { frames := 0, cells := 0, slots := 0, locals := 0 }
set_option maxHeartbeats 4000000 in
set_option maxRecDepth 100000 in
theorem met_X3_exponentOfPart (l : Launch) (D : va_G) (k : Nat → ClassId)  (aF : Nat → Nat) (qu : Nat) (sz : Nat) (Fkinds : Nat → Int32) (Flefts : Nat → Int32) (Frights : Nat → Int32) (Fplaces : Nat → Int32) (Fvalues : Nat → Int64) (Fslopes : Nat → Int64) (Fexponents : Nat → Int32) (Fsize : Int32) (Froot : Int32) (uA : Nat → Int32) (v1 : Int32) (r : Int32) (h : fX3_exponentOfPart v1 Fkinds Flefts Frights Fexponents uA = some r) : Met l yX3_exponentOfPart wsX3_exponentOfPart rmX3_exponentOfPart (va_Pc [.ref (aF 0), .int v1, .ref qu] (PreW D k ((wF k aF Fkinds Flefts Frights Fplaces Fvalues Fslopes Fexponents Fsize Froot) ++ ([(qu, .inl (k 0, 6, .inl uA))])) sz)) (va_Qi (fun r9 (_ : Unit) => r9 = r) (fun _ t => PostW D k (va_A ((wF k aF Fkinds Flefts Frights Fplaces Fvalues Fslopes Fexponents Fsize Froot) ++ ([(qu, .inl (k 0, 6, .inl uA))])) sz) ((wF k aF Fkinds Flefts Frights Fplaces Fvalues Fslopes Fexponents Fsize Froot) ++ ([(qu, .inl (k 0, 6, .inl uA))])) t) (va_A ((wF k aF Fkinds Flefts Frights Fplaces Fvalues Fslopes Fexponents Fsize Froot) ++ ([(qu, .inl (k 0, 6, .inl uA))])) sz)) 0 0 (va_A ((wF k aF Fkinds Flefts Frights Fplaces Fvalues Fslopes Fexponents Fsize Froot) ++ ([(qu, .inl (k 0, 6, .inl uA))])) sz) := by
  refine Met.ofW (cc := cX3_exponentOfPart) (maxL := 5) (ret := (some .int)) (by decide) rfl ?_
  intro p e s m args below meth c s₁ B hml hv
  obtain ⟨hav, hsz, hP, hK, hD0⟩ := hv
  have hx := B.exec
  have hb := B.bytes
  have hr := B.returns
  have hts := atoms_spec (ws := wsX3_exponentOfPart) B.pre
  have hown : s.vm.findClass RX3 = some m.cls := findClass_of_methodNamed B.named
  have hlocks := B.notSynchronized
  subst hsz
  have hD := hD0.self (sz := s.heap.size)
  clear hD0
  generalize hAe : va_A ((wF k aF Fkinds Flefts Frights Fplaces Fvalues Fslopes Fexponents Fsize Froot) ++ ([(qu, .inl (k 0, 6, .inl uA))])) s.heap.size = A at hD ⊢
  have hA : ∀ q : Nat, s.heap.size ≤ q → A q := fun q h => by rw [← hAe]; exact Or.inr h
  have hS : va_S A s.heap s.heap [] := va_S.rf
  have hl := lv_entry ([.ref (aF 0), .int v1, .ref qu]) (n := 5) (Nat.le_of_ble_eq_true rfl)
  rw [show entryFrame m args 5 = entryFrame m ([.ref (aF 0), .int v1, .ref qu] : List Value).toArray 5 from by rw [hav], lg_entry_eq]
  generalize (lg_sl ([.ref (aF 0), .int v1, .ref qu]) ++ List.replicate (5 - (lg_sl ([.ref (aF 0), .int v1, .ref qu])).length) Slot.unset).toArray = ls at hl ⊢
  replace hl : lv_has ls 5 [(0, .ref (aF 0)), (1, .int v1), (2, .ref qu)] := hl
  have f9 := hts (.fieldLink RX3 9 "UncertainBook$Formula" "kinds" "[I") (by decide +kernel)
  have f15 := hts (.fieldLink RX3 15 "UncertainBook$Formula" "lefts" "[I") (by decide +kernel)
  have f18 := hts (.fieldLink RX3 18 "UncertainBook$Formula" "rights" "[I") (by decide +kernel)
  have f31 := hts (.fieldLink RX3 31 "UncertainBook$Formula" "exponents" "[I") (by decide +kernel)
  have iX3 : ∀ w ∈ u_ws RX3 TX3 9, w ∈ wsX3_exponentOfPart := by decide +kernel
  refine w_q (fun Q hQ => ?_)
  unfold fX3_exponentOfPart at h
  show W p l e rmX3_exponentOfPart s m args below meth c s.heap [] 0 0 Q (F0 m 0 ls [])
  have BH_95 : ∀ (v3 : Int32), BX3_exponentOfPart_95 Fkinds Flefts Frights Fexponents uA v1 v3 = some r → ∀ (H : Heap) (locs : List Loc) (ls : Array Slot), va_P D vwCl ((wF k aF Fkinds Flefts Frights Fplaces Fvalues Fslopes Fexponents Fsize Froot) ++ ([(qu, .inl (k 0, 6, .inl uA))])) H → va_D A ((wF k aF Fkinds Flefts Frights Fplaces Fvalues Fslopes Fexponents Fsize Froot) ++ ([(qu, .inl (k 0, 6, .inl uA))])) → va_S A s.heap H locs → lv_has ls 5 [(0, .ref (aF 0)), (3, .int v3)] → W p l e rmX3_exponentOfPart s m args below meth c H locs 0 0 Q (F0 m 95 ls []) := by
    intro  v3 h H locs ls hP hD hS hl
    unfold BX3_exponentOfPart_95 at h
    refine lv_aload_n hx hb dX3_exponentOfPart_95 rfl (lv_at hl 0 rfl) ?_
    refine va_get (D := D) (ci := 3) (v := .ref (aF 7)) (C := RX3) (T := TX3) (N := 9) hx hb hts iX3 hown hK hP 0 rfl rfl 6 (by decide) f31 (fun _ h9 => h9) rfl dX3_exponentOfPart_96 ?_
    refine lv_iload_n hx hb dX3_exponentOfPart_99 rfl (lv_at hl 1 rfl) ?_
    obtain ⟨hi8, h⟩ := gi_inv h
    refine va_iald hx hb hK hP 7 0 rfl rfl hi8 dX3_exponentOfPart_100 ?_
    have hP9 := hP
    have hD9 := hD
    have hS9 := hS
    subst hQ
    cases h
    exact W.iret hx hb hr (fun t ht hW => ⟨⟨_, (), rfl, rfl, by rw [ht]; exact hP9, va_K.moved hW.alike hK, hD9⟩, hS9.F ht⟩) hS9.2.2 dX3_exponentOfPart_101
  suffices main : ∀ (H : Heap) (locs : List Loc) (ls : Array Slot), va_P D vwCl ((wF k aF Fkinds Flefts Frights Fplaces Fvalues Fslopes Fexponents Fsize Froot) ++ ([(qu, .inl (k 0, 6, .inl uA))])) H → va_D A ((wF k aF Fkinds Flefts Frights Fplaces Fvalues Fslopes Fexponents Fsize Froot) ++ ([(qu, .inl (k 0, 6, .inl uA))])) → va_S A s.heap H locs → lv_has ls 5 [(0, .ref (aF 0)), (1, .int v1), (2, .ref qu)] → W p l e rmX3_exponentOfPart s m args below meth c H locs 0 0 Q (F0 m 0 ls []) from main _ _ _ hP hD hS hl
  clear hP hD hS hl ls hAe
  intro H locs ls hP hD hS hl
  refine lv_aload_n hx hb dX3_exponentOfPart_0 rfl (lv_at hl 0 rfl) ?_
  refine va_get (D := D) (ci := 3) (v := .ref (aF 2)) (C := RX3) (T := TX3) (N := 9) hx hb hts iX3 hown hK hP 0 rfl rfl 1 (by decide) f15 (fun _ h9 => h9) rfl dX3_exponentOfPart_1 ?_
  refine lv_iload_n hx hb dX3_exponentOfPart_4 rfl (lv_at hl 1 rfl) ?_
  obtain ⟨hi1, h⟩ := gi_inv h
  refine va_iald hx hb hK hP 2 0 rfl rfl hi1 dX3_exponentOfPart_5 ?_
  refine lv_istore_n (lv' := [(3, .int (Flefts v1.toNatClampNeg)), (0, .ref (aF 0)), (1, .int v1), (2, .ref qu)]) hx hb dX3_exponentOfPart_6 rfl hl (by decide) rfl (fun ls hl => ?_)
  refine lv_aload_n hx hb dX3_exponentOfPart_7 rfl (lv_at hl 1 rfl) ?_
  refine va_get (D := D) (ci := 3) (v := .ref (aF 3)) (C := RX3) (T := TX3) (N := 9) hx hb hts iX3 hown hK hP 0 rfl rfl 2 (by decide) f18 (fun _ h9 => h9) rfl dX3_exponentOfPart_8 ?_
  refine lv_iload_n hx hb dX3_exponentOfPart_11 rfl (lv_at hl 2 rfl) ?_
  obtain ⟨hi2, h⟩ := gi_inv h
  refine va_iald hx hb hK hP 3 0 rfl rfl hi2 dX3_exponentOfPart_12 ?_
  refine lv_istore (lv' := [(4, .int (Frights v1.toNatClampNeg)), (3, .int (Flefts v1.toNatClampNeg)), (0, .ref (aF 0)), (1, .int v1), (2, .ref qu)]) hx hb dX3_exponentOfPart_13 hl (by decide) rfl (fun ls hl => ?_)
  refine lv_aload_n hx hb dX3_exponentOfPart_15 rfl (lv_at hl 2 rfl) ?_
  refine va_get (D := D) (ci := 3) (v := .ref (aF 1)) (C := RX3) (T := TX3) (N := 9) hx hb hts iX3 hown hK hP 0 rfl rfl 0 (by decide) f9 (fun _ h9 => h9) rfl dX3_exponentOfPart_16 ?_
  refine lv_iload_n hx hb dX3_exponentOfPart_19 rfl (lv_at hl 3 rfl) ?_
  obtain ⟨hi3, h⟩ := gi_inv h
  refine va_iald hx hb hK hP 1 0 rfl rfl hi3 dX3_exponentOfPart_20 ?_
  rcases Decidable.em ((Fkinds v1.toNatClampNeg) = 0) with c4 | c4
  · replace h := sf_t c4 h
    refine lv_tableIn (off := 43) (tgt := 64) hx hb dX3_exponentOfPart_21 (by rw [c4]; decide) (by rw [c4]; decide) (by rw [c4]; rfl) (by decide) ?_
    refine lv_iconst (v := 0) hx hb dX3_exponentOfPart_64 (by decide) ?_
    have hP9 := hP
    have hD9 := hD
    have hS9 := hS
    subst hQ
    cases h
    exact W.iret hx hb hr (fun t ht hW => ⟨⟨_, (), rfl, rfl, by rw [ht]; exact hP9, va_K.moved hW.alike hK, hD9⟩, hS9.F ht⟩) hS9.2.2 dX3_exponentOfPart_65
  replace h := sf_f c4 h
  rcases Decidable.em ((Fkinds v1.toNatClampNeg) = 1) with c5 | c5
  · replace h := sf_t c5 h
    refine lv_tableIn (off := 45) (tgt := 66) hx hb dX3_exponentOfPart_21 (by rw [c5]; decide) (by rw [c5]; decide) (by rw [c5]; rfl) (by decide) ?_
    refine lv_aload_n hx hb dX3_exponentOfPart_66 rfl (lv_at hl 4 rfl) ?_
    refine lv_iload_n hx hb dX3_exponentOfPart_67 rfl (lv_at hl 1 rfl) ?_
    obtain ⟨hi6, h⟩ := gi_inv h
    refine va_iald hx hb hK hP 8 0 rfl rfl hi6 dX3_exponentOfPart_68 ?_
    have hP9 := hP
    have hD9 := hD
    have hS9 := hS
    subst hQ
    cases h
    exact W.iret hx hb hr (fun t ht hW => ⟨⟨_, (), rfl, rfl, by rw [ht]; exact hP9, va_K.moved hW.alike hK, hD9⟩, hS9.F ht⟩) hS9.2.2 dX3_exponentOfPart_69
  replace h := sf_f c5 h
  rcases Decidable.em ((Fkinds v1.toNatClampNeg) = 2) with c7 | c7
  · replace h := sf_t c7 h
    refine lv_tableIn (off := 74) (tgt := 95) hx hb dX3_exponentOfPart_21 (by rw [c7]; decide) (by rw [c7]; decide) (by rw [c7]; rfl) (by decide) ?_
    exact BH_95  _ h _ _ _ hP hD hS (lv_sub hl [2, 1] rfl)
  replace h := sf_f c7 h
  rcases Decidable.em ((Fkinds v1.toNatClampNeg) = 3) with c9 | c9
  · replace h := sf_t c9 h
    refine lv_tableIn (off := 74) (tgt := 95) hx hb dX3_exponentOfPart_21 (by rw [c9]; decide) (by rw [c9]; decide) (by rw [c9]; rfl) (by decide) ?_
    exact BH_95  _ h _ _ _ hP hD hS (lv_sub hl [2, 1] rfl)
  replace h := sf_f c9 h
  rcases Decidable.em ((Fkinds v1.toNatClampNeg) = 4) with c10 | c10
  · replace h := sf_t c10 h
    refine lv_tableIn (off := 74) (tgt := 95) hx hb dX3_exponentOfPart_21 (by rw [c10]; decide) (by rw [c10]; decide) (by rw [c10]; rfl) (by decide) ?_
    exact BH_95  _ h _ _ _ hP hD hS (lv_sub hl [2, 1] rfl)
  replace h := sf_f c10 h
  rcases Decidable.em ((Fkinds v1.toNatClampNeg) = 5) with c11 | c11
  · replace h := sf_t c11 h
    refine lv_tableIn (off := 49) (tgt := 70) hx hb dX3_exponentOfPart_21 (by rw [c11]; decide) (by rw [c11]; decide) (by rw [c11]; rfl) (by decide) ?_
    refine lv_aload_n hx hb dX3_exponentOfPart_70 rfl (lv_at hl 2 rfl) ?_
    refine va_get (D := D) (ci := 3) (v := .ref (aF 7)) (C := RX3) (T := TX3) (N := 9) hx hb hts iX3 hown hK hP 0 rfl rfl 6 (by decide) f31 (fun _ h9 => h9) rfl dX3_exponentOfPart_71 ?_
    refine lv_iload_n hx hb dX3_exponentOfPart_74 rfl (lv_at hl 1 rfl) ?_
    obtain ⟨hi12, h⟩ := gi_inv h
    refine va_iald hx hb hK hP 7 0 rfl rfl hi12 dX3_exponentOfPart_75 ?_
    refine lv_aload_n hx hb dX3_exponentOfPart_76 rfl (lv_at hl 2 rfl) ?_
    refine va_get (D := D) (ci := 3) (v := .ref (aF 7)) (C := RX3) (T := TX3) (N := 9) hx hb hts iX3 hown hK hP 0 rfl rfl 6 (by decide) f31 (fun _ h9 => h9) rfl dX3_exponentOfPart_77 ?_
    refine lv_iload hx hb dX3_exponentOfPart_80 (lv_at hl 0 rfl) ?_
    obtain ⟨hi13, h⟩ := gi_inv h
    refine va_iald hx hb hK hP 7 0 rfl rfl hi13 dX3_exponentOfPart_82 ?_
    refine lv_iadd hx hb dX3_exponentOfPart_83 ?_
    have hP9 := hP
    have hD9 := hD
    have hS9 := hS
    subst hQ
    cases h
    exact W.iret hx hb hr (fun t ht hW => ⟨⟨_, (), rfl, rfl, by rw [ht]; exact hP9, va_K.moved hW.alike hK, hD9⟩, hS9.F ht⟩) hS9.2.2 dX3_exponentOfPart_84
  replace h := sf_f c11 h
  rcases Decidable.em ((Fkinds v1.toNatClampNeg) = 6) with c14 | c14
  · replace h := sf_t c14 h
    refine lv_tableIn (off := 64) (tgt := 85) hx hb dX3_exponentOfPart_21 (by rw [c14]; decide) (by rw [c14]; decide) (by rw [c14]; rfl) (by decide) ?_
    refine lv_aload_n hx hb dX3_exponentOfPart_85 rfl (lv_at hl 2 rfl) ?_
    refine va_get (D := D) (ci := 3) (v := .ref (aF 7)) (C := RX3) (T := TX3) (N := 9) hx hb hts iX3 hown hK hP 0 rfl rfl 6 (by decide) f31 (fun _ h9 => h9) rfl dX3_exponentOfPart_86 ?_
    refine lv_iload_n hx hb dX3_exponentOfPart_89 rfl (lv_at hl 1 rfl) ?_
    obtain ⟨hi15, h⟩ := gi_inv h
    refine va_iald hx hb hK hP 7 0 rfl rfl hi15 dX3_exponentOfPart_90 ?_
    refine lv_iload hx hb dX3_exponentOfPart_91 (lv_at hl 0 rfl) ?_
    refine lv_imul hx hb dX3_exponentOfPart_93 ?_
    have hP9 := hP
    have hD9 := hD
    have hS9 := hS
    subst hQ
    cases h
    exact W.iret hx hb hr (fun t ht hW => ⟨⟨_, (), rfl, rfl, by rw [ht]; exact hP9, va_K.moved hW.alike hK, hD9⟩, hS9.F ht⟩) hS9.2.2 dX3_exponentOfPart_94
  replace h := sf_f c14 h
  refine lv_tableOut (tgt := 95) hx hb dX3_exponentOfPart_21 (by have z0 := lv_neT (a := 0) c4 rfl; have z1 := lv_neT (a := 1) c5 rfl; have z2 := lv_neT (a := 2) c7 rfl; have z3 := lv_neT (a := 3) c9 rfl; have z4 := lv_neT (a := 4) c10 rfl; have z5 := lv_neT (a := 5) c11 rfl; have z6 := lv_neT (a := 6) c14 rfl; omega) (by decide) ?_
  exact BH_95  _ h _ _ _ hP hD hS (lv_sub hl [2, 1] rfl)
def LX3_exponentBy_2 (Fkinds : Nat → Int32) (Flefts : Nat → Int32) (Frights : Nat → Int32) (Fsize : Int32) (Froot : Int32) (uA : Nat → Int32) (E28 : (Nat → Int32) → Option (Int32 × (Nat → Int32))) : Nat → Int32 → (Nat → Int32) → Option (Int32 × (Nat → Int32))
  | 0, _, _ => none
  | fuel + 1, v2, Fexponents => (if Fsize ≤ v2 then E28 Fexponents else bnd1 (fX3_exponentOfPart v2 Fkinds Flefts Frights Fexponents uA) (fun r2 => gi v2 60 (LX3_exponentBy_2 Fkinds Flefts Frights Fsize Froot uA E28 fuel (v2 + 1) (upd Fexponents (v2.toNatClampNeg) r2))))
def fX3_exponentBy (Fkinds : Nat → Int32) (Flefts : Nat → Int32) (Frights : Nat → Int32) (Fexponents : Nat → Int32) (Fsize : Int32) (Froot : Int32) (uA : Nat → Int32) : Option (Int32 × (Nat → Int32)) := LX3_exponentBy_2 Fkinds Flefts Frights Fsize Froot uA (fun (Fexponents : Nat → Int32) => gi Froot 60 (some (Fexponents Froot.toNatClampNeg, Fexponents))) 1000 0 Fexponents
abbrev rmX3_exponentBy : Room := { frames := 1, cells := 0, slots := 0, locals := 24 }
set_option maxHeartbeats 4000000 in
set_option maxRecDepth 100000 in
theorem met_X3_exponentBy (l : Launch) (D : va_G) (k : Nat → ClassId)  (aF : Nat → Nat) (qu : Nat) (sz : Nat) (Fkinds : Nat → Int32) (Flefts : Nat → Int32) (Frights : Nat → Int32) (Fplaces : Nat → Int32) (Fvalues : Nat → Int64) (Fslopes : Nat → Int64) (Fexponents : Nat → Int32) (Fsize : Int32) (Froot : Int32) (uA : Nat → Int32)  (r : Int32) (RFexponents : Nat → Int32) (h : fX3_exponentBy Fkinds Flefts Frights Fexponents Fsize Froot uA = some (r, RFexponents)) : Met l yX3_exponentBy wsX3_exponentBy rmX3_exponentBy (va_Pc [.ref (aF 0), .ref qu] (PreW D k ((wF k aF Fkinds Flefts Frights Fplaces Fvalues Fslopes Fexponents Fsize Froot) ++ ([(qu, .inl (k 0, 6, .inl uA))])) sz)) (va_Qi (fun r9 (_ : Unit) => r9 = r) (fun _ t => PostW D k (va_A ((wF k aF Fkinds Flefts Frights Fplaces Fvalues Fslopes Fexponents Fsize Froot) ++ ([(qu, .inl (k 0, 6, .inl uA))])) sz) ((wF k aF Fkinds Flefts Frights Fplaces Fvalues Fslopes RFexponents Fsize Froot) ++ ([(qu, .inl (k 0, 6, .inl uA))])) t) (va_A ((wF k aF Fkinds Flefts Frights Fplaces Fvalues Fslopes Fexponents Fsize Froot) ++ ([(qu, .inl (k 0, 6, .inl uA))])) sz)) 0 0 (va_A ((wF k aF Fkinds Flefts Frights Fplaces Fvalues Fslopes Fexponents Fsize Froot) ++ ([(qu, .inl (k 0, 6, .inl uA))])) sz) := by
  refine Met.ofW (cc := cX3_exponentBy) (maxL := 3) (ret := (some .int)) (by decide) rfl ?_
  intro p e s m args below meth c s₁ B hml hv
  obtain ⟨hav, hsz, hP, hK, hD0⟩ := hv
  have hx := B.exec
  have hb := B.bytes
  have hr := B.returns
  have hts := atoms_spec (ws := wsX3_exponentBy) B.pre
  have hown : s.vm.findClass RX3 = some m.cls := findClass_of_methodNamed B.named
  have hlocks := B.notSynchronized
  subst hsz
  have hD := hD0.self (sz := s.heap.size)
  clear hD0
  generalize hAe : va_A ((wF k aF Fkinds Flefts Frights Fplaces Fvalues Fslopes Fexponents Fsize Froot) ++ ([(qu, .inl (k 0, 6, .inl uA))])) s.heap.size = A at hD ⊢
  have hA : ∀ q : Nat, s.heap.size ≤ q → A q := fun q h => by rw [← hAe]; exact Or.inr h
  have hS : va_S A s.heap s.heap [] := va_S.rf
  have hl := lv_entry ([.ref (aF 0), .ref qu]) (n := 3) (Nat.le_of_ble_eq_true rfl)
  rw [show entryFrame m args 3 = entryFrame m ([.ref (aF 0), .ref qu] : List Value).toArray 3 from by rw [hav], lg_entry_eq]
  generalize (lg_sl ([.ref (aF 0), .ref qu]) ++ List.replicate (3 - (lg_sl ([.ref (aF 0), .ref qu])).length) Slot.unset).toArray = ls at hl ⊢
  replace hl : lv_has ls 3 [(0, .ref (aF 0)), (1, .ref qu)] := hl
  have f31 := hts (.fieldLink RX3 31 "UncertainBook$Formula" "exponents" "[I") (by decide +kernel)
  have f34 := hts (.fieldLink RX3 34 "UncertainBook$Formula" "size" "I") (by decide +kernel)
  have f38 := hts (.fieldLink RX3 38 "UncertainBook$Formula" "root" "I") (by decide +kernel)
  have iX3 : ∀ w ∈ u_ws RX3 TX3 9, w ∈ wsX3_exponentBy := by decide +kernel
  refine w_q (fun Q hQ => ?_)
  unfold fX3_exponentBy at h
  show W p l e rmX3_exponentBy s m args below meth c s.heap [] 0 0 Q (F0 m 0 ls [])
  have LH_2 : ∀ (E28 : (Nat → Int32) → Option (Int32 × (Nat → Int32))) (hE28 : ∀ (Fexponents : Nat → Int32), E28 Fexponents = some (r, RFexponents) → ∀ (H : Heap) (locs : List Loc) (ls : Array Slot), va_P D vwCl ((wF k aF Fkinds Flefts Frights Fplaces Fvalues Fslopes Fexponents Fsize Froot) ++ ([(qu, .inl (k 0, 6, .inl uA))])) H → va_D A ((wF k aF Fkinds Flefts Frights Fplaces Fvalues Fslopes Fexponents Fsize Froot) ++ ([(qu, .inl (k 0, 6, .inl uA))])) → va_S A s.heap H locs → lv_has ls 3 [(0, .ref (aF 0))] → W p l e rmX3_exponentBy s m args below meth c H locs 0 0 Q (F0 m 28 ls [])) (n : Nat) (v2 : Int32) (Fexponents : Nat → Int32), LX3_exponentBy_2 Fkinds Flefts Frights Fsize Froot uA E28 n v2 Fexponents = some (r, RFexponents) → ∀ (H : Heap) (locs : List Loc) (ls : Array Slot), va_P D vwCl ((wF k aF Fkinds Flefts Frights Fplaces Fvalues Fslopes Fexponents Fsize Froot) ++ ([(qu, .inl (k 0, 6, .inl uA))])) H → va_D A ((wF k aF Fkinds Flefts Frights Fplaces Fvalues Fslopes Fexponents Fsize Froot) ++ ([(qu, .inl (k 0, 6, .inl uA))])) → va_S A s.heap H locs → lv_has ls 3 [(0, .ref (aF 0)), (1, .ref qu), (2, .int v2)] → W p l e rmX3_exponentBy s m args below meth c H locs 0 0 Q (F0 m 2 ls []) := by
    intro E28 hE28 n
    induction n with
    | zero => intro v2 Fexponents h; simp [LX3_exponentBy_2] at h
    | succ n ih =>
    intro v2 Fexponents h H locs ls hP hD hS hl
    rw [LX3_exponentBy_2] at h
    refine lv_iload_n hx hb dX3_exponentBy_2 rfl (lv_at hl 2 rfl) ?_
    refine lv_aload_n hx hb dX3_exponentBy_3 rfl (lv_at hl 0 rfl) ?_
    refine va_get (D := D) (ci := 3) (v := .int Fsize) (C := RX3) (T := TX3) (N := 9) hx hb hts iX3 hown hK hP 0 rfl rfl 7 (by decide) f34 (fun _ h9 => h9) rfl dX3_exponentBy_4 ?_
    refine lv_icmp_ge (tgt := 28) hx hb dX3_exponentBy_7 (by decide) (fun c1 => ?_) (fun c1 => ?_)
    · replace h := sf_t c1 h
      exact hE28 _ h _ _ _ hP hD hS (lv_sub hl [0] rfl)
    · replace h := sf_f c1 h
      refine lv_aload_n hx hb dX3_exponentBy_10 rfl (lv_at hl 0 rfl) ?_
      refine va_get (D := D) (ci := 3) (v := .ref (aF 7)) (C := RX3) (T := TX3) (N := 9) hx hb hts iX3 hown hK hP 0 rfl rfl 6 (by decide) f31 (fun _ h9 => h9) rfl dX3_exponentBy_11 ?_
      refine lv_iload_n hx hb dX3_exponentBy_14 rfl (lv_at hl 2 rfl) ?_
      refine lv_aload_n hx hb dX3_exponentBy_15 rfl (lv_at hl 0 rfl) ?_
      refine lv_iload_n hx hb dX3_exponentBy_16 rfl (lv_at hl 2 rfl) ?_
      refine lv_aload_n hx hb dX3_exponentBy_17 rfl (lv_at hl 1 rfl) ?_
      obtain ⟨r2, hc2, h⟩ := bnd1_inv h
      have hFc := va_free (wc := ((wF k aF Fkinds Flefts Frights Fplaces Fvalues Fslopes Fexponents Fsize Froot) ++ ([(qu, .inl (k 0, 6, .inl uA))]))) hD hS hA [0, 1, 2, 3, 4, 5, 6, 7, 8] rfl
      refine xc_i (va_runV (As := [.int v2, .ref qu]) (rest := [.int v2, .ref (aF 7)]) ⟨hx, hb, hml, hown, hts⟩ (met_X3_exponentOfPart l D k  aF qu H.size Fkinds Flefts Frights Fplaces Fvalues Fslopes Fexponents Fsize Froot uA v2 r2 hc2) (cwV 2 hts gX3_exponentBy_X3_exponentOfPart rfl rfl rfl (by decide +kernel) ⟨Nat.le_of_ble_eq_true rfl, Nat.le_of_ble_eq_true rfl⟩) ⟨pw_blind, va_recv hK hP (ci := 3) (q0 := 0) rfl rfl, pw_start hP hK hD⟩ rfl rfl hl.1 rfl (lv_room (Nat.le_of_ble_eq_true rfl)) dX3_exponentBy_18 ⟨Nat.zero_le _, Nat.zero_le _⟩) hS hFc (fun H1 locs hP1 hD1 hk1 hS => ?_)
      obtain ⟨hP, hD⟩ := vj_all hFc hP1 hD1
      clear hP1 hD1 hk1 hFc
      generalize H1 = H at hP hS ⊢
      obtain ⟨hi3, h⟩ := gi_inv h
      refine va_iast hx hb hK hP hD hS 7 0 rfl rfl hi3 dX3_exponentBy_21 (fun H locs hP hD hS => ?_)
      replace hP : va_P D vwCl ((wF k aF Fkinds Flefts Frights Fplaces Fvalues Fslopes (upd Fexponents (v2.toNatClampNeg) r2) Fsize Froot) ++ ([(qu, .inl (k 0, 6, .inl uA))])) H := hP
      replace hD : va_D A ((wF k aF Fkinds Flefts Frights Fplaces Fvalues Fslopes (upd Fexponents (v2.toNatClampNeg) r2) Fsize Froot) ++ ([(qu, .inl (k 0, 6, .inl uA))])) := hD
      refine lv_iinc (v := v2 + 1) (lv' := [(2, .int (v2 + 1)), (0, .ref (aF 0)), (1, .ref qu)]) hx hb dX3_exponentBy_22 hl (k := 2) rfl rfl (by decide) rfl (fun ls hl => ?_)
      refine lv_goto (tgt := 2) hx hb dX3_exponentBy_25 (by decide) ?_
      exact ih _ _ h _ _ _ hP hD hS (lv_sub hl [1, 2, 0] rfl)
  suffices main : ∀ (H : Heap) (locs : List Loc) (ls : Array Slot), va_P D vwCl ((wF k aF Fkinds Flefts Frights Fplaces Fvalues Fslopes Fexponents Fsize Froot) ++ ([(qu, .inl (k 0, 6, .inl uA))])) H → va_D A ((wF k aF Fkinds Flefts Frights Fplaces Fvalues Fslopes Fexponents Fsize Froot) ++ ([(qu, .inl (k 0, 6, .inl uA))])) → va_S A s.heap H locs → lv_has ls 3 [(0, .ref (aF 0)), (1, .ref qu)] → W p l e rmX3_exponentBy s m args below meth c H locs 0 0 Q (F0 m 0 ls []) from main _ _ _ hP hD hS hl
  clear hP hD hS hl ls hAe
  intro H locs ls hP hD hS hl
  refine lv_iconst (v := 0) hx hb dX3_exponentBy_0 (by decide) ?_
  refine lv_istore_n (lv' := [(2, .int 0), (0, .ref (aF 0)), (1, .ref qu)]) hx hb dX3_exponentBy_1 rfl hl (by decide) rfl (fun ls hl => ?_)
  refine LH_2 _ (fun Fexponents h H locs ls hP hD hS hl => ?_) _ _ _ h _ _ _ hP hD hS (lv_sub hl [1, 2, 0] rfl)
  · skip
    refine lv_aload_n hx hb dX3_exponentBy_28 rfl (lv_at hl 0 rfl) ?_
    refine va_get (D := D) (ci := 3) (v := .ref (aF 7)) (C := RX3) (T := TX3) (N := 9) hx hb hts iX3 hown hK hP 0 rfl rfl 6 (by decide) f31 (fun _ h9 => h9) rfl dX3_exponentBy_29 ?_
    refine lv_aload_n hx hb dX3_exponentBy_32 rfl (lv_at hl 0 rfl) ?_
    refine va_get (D := D) (ci := 3) (v := .int Froot) (C := RX3) (T := TX3) (N := 9) hx hb hts iX3 hown hK hP 0 rfl rfl 8 (by decide) f38 (fun _ h9 => h9) rfl dX3_exponentBy_33 ?_
    obtain ⟨hi4, h⟩ := gi_inv h
    refine va_iald hx hb hK hP 7 0 rfl rfl hi4 dX3_exponentBy_36 ?_
    have hP9 := hP
    have hD9 := hD
    have hS9 := hS
    subst hQ
    cases h
    exact W.iret hx hb hr (fun t ht hW => ⟨⟨_, (), rfl, rfl, by rw [ht]; exact hP9, va_K.moved hW.alike hK, hD9⟩, hS9.F ht⟩) hS9.2.2 dX3_exponentBy_37
def BX3_findUnevenSides_82 (Fkinds : Nat → Int32) (Flefts : Nat → Int32) (Frights : Nat → Int32) (Fplaces : Nat → Int32) (Fexponents : Nat → Int32) (Fsize : Int32) (K : Int32 → Int32 → Option (Int32)) (E95 : Int32 → Option (Int32)) (v2 : Int32) : Option (Int32) := gi v2 60 (K (Fplaces v2.toNatClampNeg) (v2 + 1))
def BX3_findUnevenSides_62 (Fkinds : Nat → Int32) (Flefts : Nat → Int32) (Frights : Nat → Int32) (Fplaces : Nat → Int32) (Fexponents : Nat → Int32) (Fsize : Int32) (K : Int32 → Int32 → Option (Int32)) (E95 : Int32 → Option (Int32)) (v1 : Int32) (v2 : Int32) (s0 : Int32) : Option (Int32) := (if s0 = 0 then K v1 (v2 + 1) else (if v1 = ((-1)) then BX3_findUnevenSides_82 Fkinds Flefts Frights Fplaces Fexponents Fsize (K) E95 v2 else gi v2 60 ((if v1 ≤ (Fplaces v2.toNatClampNeg) then K v1 (v2 + 1) else BX3_findUnevenSides_82 Fkinds Flefts Frights Fplaces Fexponents Fsize (K) E95 v2))))
def BX3_findUnevenSides_61 (Fkinds : Nat → Int32) (Flefts : Nat → Int32) (Frights : Nat → Int32) (Fplaces : Nat → Int32) (Fexponents : Nat → Int32) (Fsize : Int32) (K : Int32 → Int32 → Option (Int32)) (E95 : Int32 → Option (Int32)) (v1 : Int32) (v2 : Int32) : Option (Int32) := BX3_findUnevenSides_62 Fkinds Flefts Frights Fplaces Fexponents Fsize (K) E95 v1 v2 0
def BX3_findUnevenSides_32 (Fkinds : Nat → Int32) (Flefts : Nat → Int32) (Frights : Nat → Int32) (Fplaces : Nat → Int32) (Fexponents : Nat → Int32) (Fsize : Int32) (K : Int32 → Int32 → Option (Int32)) (E95 : Int32 → Option (Int32)) (v1 : Int32) (v2 : Int32) : Option (Int32) := gi v2 60 (gi (Flefts v2.toNatClampNeg) 60 (gi v2 60 (gi (Frights v2.toNatClampNeg) 60 ((if (Fexponents (Flefts v2.toNatClampNeg).toNatClampNeg) = (Fexponents (Frights v2.toNatClampNeg).toNatClampNeg) then BX3_findUnevenSides_61 Fkinds Flefts Frights Fplaces Fexponents Fsize (K) E95 v1 v2 else BX3_findUnevenSides_62 Fkinds Flefts Frights Fplaces Fexponents Fsize (K) E95 v1 v2 1)))))
def LX3_findUnevenSides_4 (Fkinds : Nat → Int32) (Flefts : Nat → Int32) (Frights : Nat → Int32) (Fplaces : Nat → Int32) (Fexponents : Nat → Int32) (Fsize : Int32) (E95 : Int32 → Option (Int32)) : Nat → Int32 → Int32 → Option (Int32)
  | 0, _, _ => none
  | fuel + 1, v1, v2 => (if Fsize ≤ v2 then E95 v1 else gi v2 60 ((if (Fkinds v2.toNatClampNeg) = 3 then BX3_findUnevenSides_32 Fkinds Flefts Frights Fplaces Fexponents Fsize (LX3_findUnevenSides_4 Fkinds Flefts Frights Fplaces Fexponents Fsize E95 fuel) E95 v1 v2 else gi v2 60 ((if (Fkinds v2.toNatClampNeg) = 4 then BX3_findUnevenSides_32 Fkinds Flefts Frights Fplaces Fexponents Fsize (LX3_findUnevenSides_4 Fkinds Flefts Frights Fplaces Fexponents Fsize E95 fuel) E95 v1 v2 else BX3_findUnevenSides_61 Fkinds Flefts Frights Fplaces Fexponents Fsize (LX3_findUnevenSides_4 Fkinds Flefts Frights Fplaces Fexponents Fsize E95 fuel) E95 v1 v2)))))
def fX3_findUnevenSides (Fkinds : Nat → Int32) (Flefts : Nat → Int32) (Frights : Nat → Int32) (Fplaces : Nat → Int32) (Fexponents : Nat → Int32) (Fsize : Int32) : Option (Int32) := LX3_findUnevenSides_4 Fkinds Flefts Frights Fplaces Fexponents Fsize (fun (v1 : Int32) => some (v1)) 1000 ((-1)) 0
abbrev rmX3_findUnevenSides : Room := { frames := 0, cells := 0, slots := 0, locals := 0 }
set_option maxHeartbeats 4000000 in
set_option maxRecDepth 100000 in
theorem met_X3_findUnevenSides (l : Launch) (D : va_G) (k : Nat → ClassId)  (aF : Nat → Nat) (sz : Nat) (Fkinds : Nat → Int32) (Flefts : Nat → Int32) (Frights : Nat → Int32) (Fplaces : Nat → Int32) (Fvalues : Nat → Int64) (Fslopes : Nat → Int64) (Fexponents : Nat → Int32) (Fsize : Int32) (Froot : Int32)  (r : Int32) (h : fX3_findUnevenSides Fkinds Flefts Frights Fplaces Fexponents Fsize = some r) : Met l yX3_findUnevenSides wsX3_findUnevenSides rmX3_findUnevenSides (va_Pc [.ref (aF 0)] (PreW D k (wF k aF Fkinds Flefts Frights Fplaces Fvalues Fslopes Fexponents Fsize Froot) sz)) (va_Qi (fun r9 (_ : Unit) => r9 = r) (fun _ t => PostW D k (va_A (wF k aF Fkinds Flefts Frights Fplaces Fvalues Fslopes Fexponents Fsize Froot) sz) (wF k aF Fkinds Flefts Frights Fplaces Fvalues Fslopes Fexponents Fsize Froot) t) (va_A (wF k aF Fkinds Flefts Frights Fplaces Fvalues Fslopes Fexponents Fsize Froot) sz)) 0 0 (va_A (wF k aF Fkinds Flefts Frights Fplaces Fvalues Fslopes Fexponents Fsize Froot) sz) := by
  refine Met.ofW (cc := cX3_findUnevenSides) (maxL := 4) (ret := (some .int)) (by decide) rfl ?_
  intro p e s m args below meth c s₁ B hml hv
  obtain ⟨hav, hsz, hP, hK, hD0⟩ := hv
  have hx := B.exec
  have hb := B.bytes
  have hr := B.returns
  have hts := atoms_spec (ws := wsX3_findUnevenSides) B.pre
  have hown : s.vm.findClass RX3 = some m.cls := findClass_of_methodNamed B.named
  have hlocks := B.notSynchronized
  subst hsz
  have hD := hD0.self (sz := s.heap.size)
  clear hD0
  generalize hAe : va_A (wF k aF Fkinds Flefts Frights Fplaces Fvalues Fslopes Fexponents Fsize Froot) s.heap.size = A at hD ⊢
  have hA : ∀ q : Nat, s.heap.size ≤ q → A q := fun q h => by rw [← hAe]; exact Or.inr h
  have hS : va_S A s.heap s.heap [] := va_S.rf
  have hl := lv_entry ([.ref (aF 0)]) (n := 4) (Nat.le_of_ble_eq_true rfl)
  rw [show entryFrame m args 4 = entryFrame m ([.ref (aF 0)] : List Value).toArray 4 from by rw [hav], lg_entry_eq]
  generalize (lg_sl ([.ref (aF 0)]) ++ List.replicate (4 - (lg_sl ([.ref (aF 0)])).length) Slot.unset).toArray = ls at hl ⊢
  replace hl : lv_has ls 4 [(0, .ref (aF 0))] := hl
  have f9 := hts (.fieldLink RX3 9 "UncertainBook$Formula" "kinds" "[I") (by decide +kernel)
  have f15 := hts (.fieldLink RX3 15 "UncertainBook$Formula" "lefts" "[I") (by decide +kernel)
  have f18 := hts (.fieldLink RX3 18 "UncertainBook$Formula" "rights" "[I") (by decide +kernel)
  have f21 := hts (.fieldLink RX3 21 "UncertainBook$Formula" "places" "[I") (by decide +kernel)
  have f31 := hts (.fieldLink RX3 31 "UncertainBook$Formula" "exponents" "[I") (by decide +kernel)
  have f34 := hts (.fieldLink RX3 34 "UncertainBook$Formula" "size" "I") (by decide +kernel)
  have iX3 : ∀ w ∈ u_ws RX3 TX3 9, w ∈ wsX3_findUnevenSides := by decide +kernel
  refine w_q (fun Q hQ => ?_)
  unfold fX3_findUnevenSides at h
  show W p l e rmX3_findUnevenSides s m args below meth c s.heap [] 0 0 Q (F0 m 0 ls [])
  have BH_82 : ∀ (K : Int32 → Int32 → Option (Int32)) (hKK : ∀ (v1 : Int32) (v2 : Int32), K v1 v2 = some r → ∀ (H : Heap) (locs : List Loc) (ls : Array Slot), va_P D vwCl (wF k aF Fkinds Flefts Frights Fplaces Fvalues Fslopes Fexponents Fsize Froot) H → va_D A (wF k aF Fkinds Flefts Frights Fplaces Fvalues Fslopes Fexponents Fsize Froot) → va_S A s.heap H locs → lv_has ls 4 [(0, .ref (aF 0)), (1, .int v1), (2, .int v2)] → W p l e rmX3_findUnevenSides s m args below meth c H locs 0 0 Q (F0 m 4 ls [])) (E95 : Int32 → Option (Int32)) (hE95 : ∀ (v1 : Int32), E95 v1 = some r → ∀ (H : Heap) (locs : List Loc) (ls : Array Slot), va_P D vwCl (wF k aF Fkinds Flefts Frights Fplaces Fvalues Fslopes Fexponents Fsize Froot) H → va_D A (wF k aF Fkinds Flefts Frights Fplaces Fvalues Fslopes Fexponents Fsize Froot) → va_S A s.heap H locs → lv_has ls 4 [(1, .int v1)] → W p l e rmX3_findUnevenSides s m args below meth c H locs 0 0 Q (F0 m 95 ls [])) (v2 : Int32), BX3_findUnevenSides_82 Fkinds Flefts Frights Fplaces Fexponents Fsize K E95 v2 = some r → ∀ (H : Heap) (locs : List Loc) (ls : Array Slot), va_P D vwCl (wF k aF Fkinds Flefts Frights Fplaces Fvalues Fslopes Fexponents Fsize Froot) H → va_D A (wF k aF Fkinds Flefts Frights Fplaces Fvalues Fslopes Fexponents Fsize Froot) → va_S A s.heap H locs → lv_has ls 4 [(0, .ref (aF 0)), (2, .int v2)] → W p l e rmX3_findUnevenSides s m args below meth c H locs 0 0 Q (F0 m 82 ls []) := by
    intro K hKK E95 hE95 v2 h H locs ls hP hD hS hl
    unfold BX3_findUnevenSides_82 at h
    refine lv_aload_n hx hb dX3_findUnevenSides_82 rfl (lv_at hl 0 rfl) ?_
    refine va_get (D := D) (ci := 3) (v := .ref (aF 4)) (C := RX3) (T := TX3) (N := 9) hx hb hts iX3 hown hK hP 0 rfl rfl 3 (by decide) f21 (fun _ h9 => h9) rfl dX3_findUnevenSides_83 ?_
    refine lv_iload_n hx hb dX3_findUnevenSides_86 rfl (lv_at hl 1 rfl) ?_
    obtain ⟨hi11, h⟩ := gi_inv h
    refine va_iald hx hb hK hP 4 0 rfl rfl hi11 dX3_findUnevenSides_87 ?_
    refine lv_istore_n (lv' := [(1, .int (Fplaces v2.toNatClampNeg)), (0, .ref (aF 0)), (2, .int v2)]) hx hb dX3_findUnevenSides_88 rfl hl (by decide) rfl (fun ls hl => ?_)
    refine lv_iinc (v := v2 + 1) (lv' := [(2, .int (v2 + 1)), (1, .int (Fplaces v2.toNatClampNeg)), (0, .ref (aF 0))]) hx hb dX3_findUnevenSides_89 hl (k := 2) rfl rfl (by decide) rfl (fun ls hl => ?_)
    refine lv_goto (tgt := 4) hx hb dX3_findUnevenSides_92 (by decide) ?_
    exact hKK _ _ h _ _ _ hP hD hS (lv_sub hl [2, 1, 0] rfl)
  have BH_62 : ∀ (K : Int32 → Int32 → Option (Int32)) (hKK : ∀ (v1 : Int32) (v2 : Int32), K v1 v2 = some r → ∀ (H : Heap) (locs : List Loc) (ls : Array Slot), va_P D vwCl (wF k aF Fkinds Flefts Frights Fplaces Fvalues Fslopes Fexponents Fsize Froot) H → va_D A (wF k aF Fkinds Flefts Frights Fplaces Fvalues Fslopes Fexponents Fsize Froot) → va_S A s.heap H locs → lv_has ls 4 [(0, .ref (aF 0)), (1, .int v1), (2, .int v2)] → W p l e rmX3_findUnevenSides s m args below meth c H locs 0 0 Q (F0 m 4 ls [])) (E95 : Int32 → Option (Int32)) (hE95 : ∀ (v1 : Int32), E95 v1 = some r → ∀ (H : Heap) (locs : List Loc) (ls : Array Slot), va_P D vwCl (wF k aF Fkinds Flefts Frights Fplaces Fvalues Fslopes Fexponents Fsize Froot) H → va_D A (wF k aF Fkinds Flefts Frights Fplaces Fvalues Fslopes Fexponents Fsize Froot) → va_S A s.heap H locs → lv_has ls 4 [(1, .int v1)] → W p l e rmX3_findUnevenSides s m args below meth c H locs 0 0 Q (F0 m 95 ls [])) (v1 : Int32) (v2 : Int32) (s0 : Int32), BX3_findUnevenSides_62 Fkinds Flefts Frights Fplaces Fexponents Fsize K E95 v1 v2 s0 = some r → ∀ (H : Heap) (locs : List Loc) (ls : Array Slot), va_P D vwCl (wF k aF Fkinds Flefts Frights Fplaces Fvalues Fslopes Fexponents Fsize Froot) H → va_D A (wF k aF Fkinds Flefts Frights Fplaces Fvalues Fslopes Fexponents Fsize Froot) → va_S A s.heap H locs → lv_has ls 4 [(0, .ref (aF 0)), (1, .int v1), (2, .int v2)] → W p l e rmX3_findUnevenSides s m args below meth c H locs 0 0 Q (F0 m 62 ls [.int s0]) := by
    intro K hKK E95 hE95 v1 v2 s0 h H locs ls hP hD hS hl
    unfold BX3_findUnevenSides_62 at h
    refine lv_istore_n (lv' := [(3, .int s0), (0, .ref (aF 0)), (1, .int v1), (2, .int v2)]) hx hb dX3_findUnevenSides_62 rfl hl (by decide) rfl (fun ls hl => ?_)
    refine lv_iload_n hx hb dX3_findUnevenSides_63 rfl (lv_at hl 0 rfl) ?_
    refine lv_if_eq (tgt := 89) hx hb dX3_findUnevenSides_64 (by decide) (fun c9 => ?_) (fun c9 => ?_)
    · replace h := sf_t c9 h
      refine lv_iinc (v := v2 + 1) (lv' := [(2, .int (v2 + 1)), (3, .int s0), (0, .ref (aF 0)), (1, .int v1)]) hx hb dX3_findUnevenSides_89 hl (k := 3) rfl rfl (by decide) rfl (fun ls hl => ?_)
      refine lv_goto (tgt := 4) hx hb dX3_findUnevenSides_92 (by decide) ?_
      exact hKK _ _ h _ _ _ hP hD hS (lv_sub hl [2, 3, 0] rfl)
    · replace h := sf_f c9 h
      refine lv_iload_n hx hb dX3_findUnevenSides_67 rfl (lv_at hl 2 rfl) ?_
      refine lv_iconst (v := -1) hx hb dX3_findUnevenSides_68 (by decide) ?_
      refine lv_icmp_eq (tgt := 82) hx hb dX3_findUnevenSides_69 (by decide) (fun c10 => ?_) (fun c10 => ?_)
      · replace h := sf_t c10 h
        exact BH_82 _ hKK _ hE95 _ h _ _ _ hP hD hS (lv_sub hl [1, 3] rfl)
      · replace h := sf_f c10 h
        refine lv_aload_n hx hb dX3_findUnevenSides_72 rfl (lv_at hl 1 rfl) ?_
        refine va_get (D := D) (ci := 3) (v := .ref (aF 4)) (C := RX3) (T := TX3) (N := 9) hx hb hts iX3 hown hK hP 0 rfl rfl 3 (by decide) f21 (fun _ h9 => h9) rfl dX3_findUnevenSides_73 ?_
        refine lv_iload_n hx hb dX3_findUnevenSides_76 rfl (lv_at hl 3 rfl) ?_
        obtain ⟨hi12, h⟩ := gi_inv h
        refine va_iald hx hb hK hP 4 0 rfl rfl hi12 dX3_findUnevenSides_77 ?_
        refine lv_iload_n hx hb dX3_findUnevenSides_78 rfl (lv_at hl 2 rfl) ?_
        refine lv_icmp_ge (tgt := 89) hx hb dX3_findUnevenSides_79 (by decide) (fun c13 => ?_) (fun c13 => ?_)
        · replace h := sf_t c13 h
          refine lv_iinc (v := v2 + 1) (lv' := [(2, .int (v2 + 1)), (3, .int s0), (0, .ref (aF 0)), (1, .int v1)]) hx hb dX3_findUnevenSides_89 hl (k := 3) rfl rfl (by decide) rfl (fun ls hl => ?_)
          refine lv_goto (tgt := 4) hx hb dX3_findUnevenSides_92 (by decide) ?_
          exact hKK _ _ h _ _ _ hP hD hS (lv_sub hl [2, 3, 0] rfl)
        · replace h := sf_f c13 h
          exact BH_82 _ hKK _ hE95 _ h _ _ _ hP hD hS (lv_sub hl [1, 3] rfl)
  have BH_61 : ∀ (K : Int32 → Int32 → Option (Int32)) (hKK : ∀ (v1 : Int32) (v2 : Int32), K v1 v2 = some r → ∀ (H : Heap) (locs : List Loc) (ls : Array Slot), va_P D vwCl (wF k aF Fkinds Flefts Frights Fplaces Fvalues Fslopes Fexponents Fsize Froot) H → va_D A (wF k aF Fkinds Flefts Frights Fplaces Fvalues Fslopes Fexponents Fsize Froot) → va_S A s.heap H locs → lv_has ls 4 [(0, .ref (aF 0)), (1, .int v1), (2, .int v2)] → W p l e rmX3_findUnevenSides s m args below meth c H locs 0 0 Q (F0 m 4 ls [])) (E95 : Int32 → Option (Int32)) (hE95 : ∀ (v1 : Int32), E95 v1 = some r → ∀ (H : Heap) (locs : List Loc) (ls : Array Slot), va_P D vwCl (wF k aF Fkinds Flefts Frights Fplaces Fvalues Fslopes Fexponents Fsize Froot) H → va_D A (wF k aF Fkinds Flefts Frights Fplaces Fvalues Fslopes Fexponents Fsize Froot) → va_S A s.heap H locs → lv_has ls 4 [(1, .int v1)] → W p l e rmX3_findUnevenSides s m args below meth c H locs 0 0 Q (F0 m 95 ls [])) (v1 : Int32) (v2 : Int32), BX3_findUnevenSides_61 Fkinds Flefts Frights Fplaces Fexponents Fsize K E95 v1 v2 = some r → ∀ (H : Heap) (locs : List Loc) (ls : Array Slot), va_P D vwCl (wF k aF Fkinds Flefts Frights Fplaces Fvalues Fslopes Fexponents Fsize Froot) H → va_D A (wF k aF Fkinds Flefts Frights Fplaces Fvalues Fslopes Fexponents Fsize Froot) → va_S A s.heap H locs → lv_has ls 4 [(0, .ref (aF 0)), (1, .int v1), (2, .int v2)] → W p l e rmX3_findUnevenSides s m args below meth c H locs 0 0 Q (F0 m 61 ls []) := by
    intro K hKK E95 hE95 v1 v2 h H locs ls hP hD hS hl
    unfold BX3_findUnevenSides_61 at h
    refine lv_iconst (v := 0) hx hb dX3_findUnevenSides_61 (by decide) ?_
    exact BH_62 _ hKK _ hE95 _ _ _ h _ _ _ hP hD hS (lv_sub hl [0, 1, 2] rfl)
  have BH_32 : ∀ (K : Int32 → Int32 → Option (Int32)) (hKK : ∀ (v1 : Int32) (v2 : Int32), K v1 v2 = some r → ∀ (H : Heap) (locs : List Loc) (ls : Array Slot), va_P D vwCl (wF k aF Fkinds Flefts Frights Fplaces Fvalues Fslopes Fexponents Fsize Froot) H → va_D A (wF k aF Fkinds Flefts Frights Fplaces Fvalues Fslopes Fexponents Fsize Froot) → va_S A s.heap H locs → lv_has ls 4 [(0, .ref (aF 0)), (1, .int v1), (2, .int v2)] → W p l e rmX3_findUnevenSides s m args below meth c H locs 0 0 Q (F0 m 4 ls [])) (E95 : Int32 → Option (Int32)) (hE95 : ∀ (v1 : Int32), E95 v1 = some r → ∀ (H : Heap) (locs : List Loc) (ls : Array Slot), va_P D vwCl (wF k aF Fkinds Flefts Frights Fplaces Fvalues Fslopes Fexponents Fsize Froot) H → va_D A (wF k aF Fkinds Flefts Frights Fplaces Fvalues Fslopes Fexponents Fsize Froot) → va_S A s.heap H locs → lv_has ls 4 [(1, .int v1)] → W p l e rmX3_findUnevenSides s m args below meth c H locs 0 0 Q (F0 m 95 ls [])) (v1 : Int32) (v2 : Int32), BX3_findUnevenSides_32 Fkinds Flefts Frights Fplaces Fexponents Fsize K E95 v1 v2 = some r → ∀ (H : Heap) (locs : List Loc) (ls : Array Slot), va_P D vwCl (wF k aF Fkinds Flefts Frights Fplaces Fvalues Fslopes Fexponents Fsize Froot) H → va_D A (wF k aF Fkinds Flefts Frights Fplaces Fvalues Fslopes Fexponents Fsize Froot) → va_S A s.heap H locs → lv_has ls 4 [(0, .ref (aF 0)), (1, .int v1), (2, .int v2)] → W p l e rmX3_findUnevenSides s m args below meth c H locs 0 0 Q (F0 m 32 ls []) := by
    intro K hKK E95 hE95 v1 v2 h H locs ls hP hD hS hl
    unfold BX3_findUnevenSides_32 at h
    refine lv_aload_n hx hb dX3_findUnevenSides_32 rfl (lv_at hl 0 rfl) ?_
    refine va_get (D := D) (ci := 3) (v := .ref (aF 7)) (C := RX3) (T := TX3) (N := 9) hx hb hts iX3 hown hK hP 0 rfl rfl 6 (by decide) f31 (fun _ h9 => h9) rfl dX3_findUnevenSides_33 ?_
    refine lv_aload_n hx hb dX3_findUnevenSides_36 rfl (lv_at hl 0 rfl) ?_
    refine va_get (D := D) (ci := 3) (v := .ref (aF 2)) (C := RX3) (T := TX3) (N := 9) hx hb hts iX3 hown hK hP 0 rfl rfl 1 (by decide) f15 (fun _ h9 => h9) rfl dX3_findUnevenSides_37 ?_
    refine lv_iload_n hx hb dX3_findUnevenSides_40 rfl (lv_at hl 2 rfl) ?_
    obtain ⟨hi4, h⟩ := gi_inv h
    refine va_iald hx hb hK hP 2 0 rfl rfl hi4 dX3_findUnevenSides_41 ?_
    obtain ⟨hi5, h⟩ := gi_inv h
    refine va_iald hx hb hK hP 7 0 rfl rfl hi5 dX3_findUnevenSides_42 ?_
    refine lv_aload_n hx hb dX3_findUnevenSides_43 rfl (lv_at hl 0 rfl) ?_
    refine va_get (D := D) (ci := 3) (v := .ref (aF 7)) (C := RX3) (T := TX3) (N := 9) hx hb hts iX3 hown hK hP 0 rfl rfl 6 (by decide) f31 (fun _ h9 => h9) rfl dX3_findUnevenSides_44 ?_
    refine lv_aload_n hx hb dX3_findUnevenSides_47 rfl (lv_at hl 0 rfl) ?_
    refine va_get (D := D) (ci := 3) (v := .ref (aF 3)) (C := RX3) (T := TX3) (N := 9) hx hb hts iX3 hown hK hP 0 rfl rfl 2 (by decide) f18 (fun _ h9 => h9) rfl dX3_findUnevenSides_48 ?_
    refine lv_iload_n hx hb dX3_findUnevenSides_51 rfl (lv_at hl 2 rfl) ?_
    obtain ⟨hi6, h⟩ := gi_inv h
    refine va_iald hx hb hK hP 3 0 rfl rfl hi6 dX3_findUnevenSides_52 ?_
    obtain ⟨hi7, h⟩ := gi_inv h
    refine va_iald hx hb hK hP 7 0 rfl rfl hi7 dX3_findUnevenSides_53 ?_
    refine lv_icmp_eq (tgt := 61) hx hb dX3_findUnevenSides_54 (by decide) (fun c8 => ?_) (fun c8 => ?_)
    · replace h := sf_t c8 h
      exact BH_61 _ hKK _ hE95 _ _ h _ _ _ hP hD hS (lv_sub hl [0, 1, 2] rfl)
    · replace h := sf_f c8 h
      refine lv_iconst (v := 1) hx hb dX3_findUnevenSides_57 (by decide) ?_
      refine lv_goto (tgt := 62) hx hb dX3_findUnevenSides_58 (by decide) ?_
      exact BH_62 _ hKK _ hE95 _ _ _ h _ _ _ hP hD hS (lv_sub hl [0, 1, 2] rfl)
  have LH_4 : ∀ (E95 : Int32 → Option (Int32)) (hE95 : ∀ (v1 : Int32), E95 v1 = some r → ∀ (H : Heap) (locs : List Loc) (ls : Array Slot), va_P D vwCl (wF k aF Fkinds Flefts Frights Fplaces Fvalues Fslopes Fexponents Fsize Froot) H → va_D A (wF k aF Fkinds Flefts Frights Fplaces Fvalues Fslopes Fexponents Fsize Froot) → va_S A s.heap H locs → lv_has ls 4 [(1, .int v1)] → W p l e rmX3_findUnevenSides s m args below meth c H locs 0 0 Q (F0 m 95 ls [])) (n : Nat) (v1 : Int32) (v2 : Int32), LX3_findUnevenSides_4 Fkinds Flefts Frights Fplaces Fexponents Fsize E95 n v1 v2 = some r → ∀ (H : Heap) (locs : List Loc) (ls : Array Slot), va_P D vwCl (wF k aF Fkinds Flefts Frights Fplaces Fvalues Fslopes Fexponents Fsize Froot) H → va_D A (wF k aF Fkinds Flefts Frights Fplaces Fvalues Fslopes Fexponents Fsize Froot) → va_S A s.heap H locs → lv_has ls 4 [(0, .ref (aF 0)), (1, .int v1), (2, .int v2)] → W p l e rmX3_findUnevenSides s m args below meth c H locs 0 0 Q (F0 m 4 ls []) := by
    intro E95 hE95 n
    induction n with
    | zero => intro v1 v2 h; simp [LX3_findUnevenSides_4] at h
    | succ n ih =>
    intro v1 v2 h H locs ls hP hD hS hl
    rw [LX3_findUnevenSides_4] at h
    refine lv_iload_n hx hb dX3_findUnevenSides_4 rfl (lv_at hl 2 rfl) ?_
    refine lv_aload_n hx hb dX3_findUnevenSides_5 rfl (lv_at hl 0 rfl) ?_
    refine va_get (D := D) (ci := 3) (v := .int Fsize) (C := RX3) (T := TX3) (N := 9) hx hb hts iX3 hown hK hP 0 rfl rfl 7 (by decide) f34 (fun _ h9 => h9) rfl dX3_findUnevenSides_6 ?_
    refine lv_icmp_ge (tgt := 95) hx hb dX3_findUnevenSides_9 (by decide) (fun c1 => ?_) (fun c1 => ?_)
    · replace h := sf_t c1 h
      exact hE95 _ h _ _ _ hP hD hS (lv_sub hl [1] rfl)
    · replace h := sf_f c1 h
      refine lv_aload_n hx hb dX3_findUnevenSides_12 rfl (lv_at hl 0 rfl) ?_
      refine va_get (D := D) (ci := 3) (v := .ref (aF 1)) (C := RX3) (T := TX3) (N := 9) hx hb hts iX3 hown hK hP 0 rfl rfl 0 (by decide) f9 (fun _ h9 => h9) rfl dX3_findUnevenSides_13 ?_
      refine lv_iload_n hx hb dX3_findUnevenSides_16 rfl (lv_at hl 2 rfl) ?_
      obtain ⟨hi2, h⟩ := gi_inv h
      refine va_iald hx hb hK hP 1 0 rfl rfl hi2 dX3_findUnevenSides_17 ?_
      refine lv_iconst (v := 3) hx hb dX3_findUnevenSides_18 (by decide) ?_
      refine lv_icmp_eq (tgt := 32) hx hb dX3_findUnevenSides_19 (by decide) (fun c3 => ?_) (fun c3 => ?_)
      · replace h := sf_t c3 h
        exact BH_32 _ ih _ hE95 _ _ h _ _ _ hP hD hS (lv_sub hl [0, 1, 2] rfl)
      · replace h := sf_f c3 h
        refine lv_aload_n hx hb dX3_findUnevenSides_22 rfl (lv_at hl 0 rfl) ?_
        refine va_get (D := D) (ci := 3) (v := .ref (aF 1)) (C := RX3) (T := TX3) (N := 9) hx hb hts iX3 hown hK hP 0 rfl rfl 0 (by decide) f9 (fun _ h9 => h9) rfl dX3_findUnevenSides_23 ?_
        refine lv_iload_n hx hb dX3_findUnevenSides_26 rfl (lv_at hl 2 rfl) ?_
        obtain ⟨hi14, h⟩ := gi_inv h
        refine va_iald hx hb hK hP 1 0 rfl rfl hi14 dX3_findUnevenSides_27 ?_
        refine lv_iconst (v := 4) hx hb dX3_findUnevenSides_28 (by decide) ?_
        refine lv_icmp_ne (tgt := 61) hx hb dX3_findUnevenSides_29 (by decide) (fun c15 => ?_) (fun c15 => ?_)
        · replace h := sf_f c15 h
          exact BH_61 _ ih _ hE95 _ _ h _ _ _ hP hD hS (lv_sub hl [0, 1, 2] rfl)
        · replace h := sf_t c15 h
          exact BH_32 _ ih _ hE95 _ _ h _ _ _ hP hD hS (lv_sub hl [0, 1, 2] rfl)
  suffices main : ∀ (H : Heap) (locs : List Loc) (ls : Array Slot), va_P D vwCl (wF k aF Fkinds Flefts Frights Fplaces Fvalues Fslopes Fexponents Fsize Froot) H → va_D A (wF k aF Fkinds Flefts Frights Fplaces Fvalues Fslopes Fexponents Fsize Froot) → va_S A s.heap H locs → lv_has ls 4 [(0, .ref (aF 0))] → W p l e rmX3_findUnevenSides s m args below meth c H locs 0 0 Q (F0 m 0 ls []) from main _ _ _ hP hD hS hl
  clear hP hD hS hl ls hAe
  intro H locs ls hP hD hS hl
  refine lv_iconst (v := -1) hx hb dX3_findUnevenSides_0 (by decide) ?_
  refine lv_istore_n (lv' := [(1, .int ((-1))), (0, .ref (aF 0))]) hx hb dX3_findUnevenSides_1 rfl hl (by decide) rfl (fun ls hl => ?_)
  refine lv_iconst (v := 0) hx hb dX3_findUnevenSides_2 (by decide) ?_
  refine lv_istore_n (lv' := [(2, .int 0), (1, .int ((-1))), (0, .ref (aF 0))]) hx hb dX3_findUnevenSides_3 rfl hl (by decide) rfl (fun ls hl => ?_)
  refine LH_4 _ (fun v1 h H locs ls hP hD hS hl => ?_) _ _ _ h _ _ _ hP hD hS (lv_sub hl [2, 1, 0] rfl)
  · skip
    refine lv_iload_n hx hb dX3_findUnevenSides_95 rfl (lv_at hl 0 rfl) ?_
    have hP9 := hP
    have hD9 := hD
    have hS9 := hS
    subst hQ
    cases h
    exact W.iret hx hb hr (fun t ht hW => ⟨⟨_, (), rfl, rfl, by rw [ht]; exact hP9, va_K.moved hW.alike hK, hD9⟩, hS9.F ht⟩) hS9.2.2 dX3_findUnevenSides_96
def BX3_findDisagreement_34 (Fkinds : Nat → Int32) (Flefts : Nat → Int32) (Frights : Nat → Int32) (Fplaces : Nat → Int32) (Fsize : Int32) (Froot : Int32) (uA : Nat → Int32) (wA : Nat → Int32)  (v3 : Int32) (v4 : Int32) (Fexponents : Nat → Int32) : Option (Int32 × (Nat → Int32)) := some (if v3 < v4 then v4 else v3, Fexponents)
def fX3_findDisagreement (Fkinds : Nat → Int32) (Flefts : Nat → Int32) (Frights : Nat → Int32) (Fplaces : Nat → Int32) (Fexponents : Nat → Int32) (Fsize : Int32) (Froot : Int32) (uA : Nat → Int32) (wA : Nat → Int32) : Option (Int32 × (Nat → Int32)) := bnd2 (fX3_exponentBy Fkinds Flefts Frights Fexponents Fsize Froot uA) (fun r1 exponents_1 => bnd1 (fX3_findUnevenSides Fkinds Flefts Frights Fplaces exponents_1 Fsize) (fun r2 => bnd2 (fX3_exponentBy Fkinds Flefts Frights exponents_1 Fsize Froot wA) (fun r3 exponents_3 => bnd1 (fX3_findUnevenSides Fkinds Flefts Frights Fplaces exponents_3 Fsize) (fun r4 => (if r2 = ((-1)) then BX3_findDisagreement_34 Fkinds Flefts Frights Fplaces Fsize Froot uA wA r2 r4 exponents_3 else (if r4 = ((-1)) then BX3_findDisagreement_34 Fkinds Flefts Frights Fplaces Fsize Froot uA wA r2 r4 exponents_3 else some (if r4 < r2 then r4 else r2, exponents_3)))))))
abbrev rmX3_findDisagreement : Room := { frames := 2, cells := 0, slots := 0, locals := 46 }
set_option maxHeartbeats 4000000 in
set_option maxRecDepth 100000 in
theorem met_X3_findDisagreement (l : Launch) (D : va_G) (k : Nat → ClassId)  (aF : Nat → Nat) (qu : Nat) (qw : Nat) (sz : Nat) (Fkinds : Nat → Int32) (Flefts : Nat → Int32) (Frights : Nat → Int32) (Fplaces : Nat → Int32) (Fvalues : Nat → Int64) (Fslopes : Nat → Int64) (Fexponents : Nat → Int32) (Fsize : Int32) (Froot : Int32) (uA : Nat → Int32) (wA : Nat → Int32)  (r : Int32) (RFexponents : Nat → Int32) (h : fX3_findDisagreement Fkinds Flefts Frights Fplaces Fexponents Fsize Froot uA wA = some (r, RFexponents)) : Met l yX3_findDisagreement wsX3_findDisagreement rmX3_findDisagreement (va_Pc [.ref (aF 0), .ref qu, .ref qw] (PreW D k ((wF k aF Fkinds Flefts Frights Fplaces Fvalues Fslopes Fexponents Fsize Froot) ++ ([(qu, .inl (k 0, 6, .inl uA))]) ++ ([(qw, .inl (k 0, 6, .inl wA))])) sz)) (va_Qi (fun r9 (_ : Unit) => r9 = r) (fun _ t => PostW D k (va_A ((wF k aF Fkinds Flefts Frights Fplaces Fvalues Fslopes Fexponents Fsize Froot) ++ ([(qu, .inl (k 0, 6, .inl uA))]) ++ ([(qw, .inl (k 0, 6, .inl wA))])) sz) ((wF k aF Fkinds Flefts Frights Fplaces Fvalues Fslopes RFexponents Fsize Froot) ++ ([(qu, .inl (k 0, 6, .inl uA))]) ++ ([(qw, .inl (k 0, 6, .inl wA))])) t) (va_A ((wF k aF Fkinds Flefts Frights Fplaces Fvalues Fslopes Fexponents Fsize Froot) ++ ([(qu, .inl (k 0, 6, .inl uA))]) ++ ([(qw, .inl (k 0, 6, .inl wA))])) sz)) 0 0 (va_A ((wF k aF Fkinds Flefts Frights Fplaces Fvalues Fslopes Fexponents Fsize Froot) ++ ([(qu, .inl (k 0, 6, .inl uA))]) ++ ([(qw, .inl (k 0, 6, .inl wA))])) sz) := by
  refine Met.ofW (cc := cX3_findDisagreement) (maxL := 5) (ret := (some .int)) (by decide) rfl ?_
  intro p e s m args below meth c s₁ B hml hv
  obtain ⟨hav, hsz, hP, hK, hD0⟩ := hv
  have hx := B.exec
  have hb := B.bytes
  have hr := B.returns
  have hts := atoms_spec (ws := wsX3_findDisagreement) B.pre
  have hown : s.vm.findClass RX3 = some m.cls := findClass_of_methodNamed B.named
  have hlocks := B.notSynchronized
  subst hsz
  have hD := hD0.self (sz := s.heap.size)
  clear hD0
  generalize hAe : va_A ((wF k aF Fkinds Flefts Frights Fplaces Fvalues Fslopes Fexponents Fsize Froot) ++ ([(qu, .inl (k 0, 6, .inl uA))]) ++ ([(qw, .inl (k 0, 6, .inl wA))])) s.heap.size = A at hD ⊢
  have hA : ∀ q : Nat, s.heap.size ≤ q → A q := fun q h => by rw [← hAe]; exact Or.inr h
  have hS : va_S A s.heap s.heap [] := va_S.rf
  have hl := lv_entry ([.ref (aF 0), .ref qu, .ref qw]) (n := 5) (Nat.le_of_ble_eq_true rfl)
  rw [show entryFrame m args 5 = entryFrame m ([.ref (aF 0), .ref qu, .ref qw] : List Value).toArray 5 from by rw [hav], lg_entry_eq]
  generalize (lg_sl ([.ref (aF 0), .ref qu, .ref qw]) ++ List.replicate (5 - (lg_sl ([.ref (aF 0), .ref qu, .ref qw])).length) Slot.unset).toArray = ls at hl ⊢
  replace hl : lv_has ls 5 [(0, .ref (aF 0)), (1, .ref qu), (2, .ref qw)] := hl
  have mkmax := hts (.methodLink RX3 87 Lib.Math.max.name) (by decide +kernel)
  have msmax := hts (.static Lib.Math.max.name) (by decide +kernel)
  have mimax := hts (.initialized "java/lang/Math") (by decide +kernel)
  have mcmax := hts (.code Lib.Math.max.name Lib.Math.max.code 2 (some .int)) (by decide +kernel)
  have mkmin := hts (.methodLink RX3 93 Lib.Math.min.name) (by decide +kernel)
  have msmin := hts (.static Lib.Math.min.name) (by decide +kernel)
  have mimin := hts (.initialized "java/lang/Math") (by decide +kernel)
  have mcmin := hts (.code Lib.Math.min.name Lib.Math.min.code 2 (some .int)) (by decide +kernel)
  refine w_q (fun Q hQ => ?_)
  unfold fX3_findDisagreement at h
  show W p l e rmX3_findDisagreement s m args below meth c s.heap [] 0 0 Q (F0 m 0 ls [])
  have BH_34 : ∀ (v3 : Int32) (v4 : Int32) (Fexponents : Nat → Int32), BX3_findDisagreement_34 Fkinds Flefts Frights Fplaces Fsize Froot uA wA v3 v4 Fexponents = some (r, RFexponents) → ∀ (H : Heap) (locs : List Loc) (ls : Array Slot), va_P D vwCl ((wF k aF Fkinds Flefts Frights Fplaces Fvalues Fslopes Fexponents Fsize Froot) ++ ([(qu, .inl (k 0, 6, .inl uA))]) ++ ([(qw, .inl (k 0, 6, .inl wA))])) H → va_D A ((wF k aF Fkinds Flefts Frights Fplaces Fvalues Fslopes Fexponents Fsize Froot) ++ ([(qu, .inl (k 0, 6, .inl uA))]) ++ ([(qw, .inl (k 0, 6, .inl wA))])) → va_S A s.heap H locs → lv_has ls 5 [(3, .int v3), (4, .int v4)] → W p l e rmX3_findDisagreement s m args below meth c H locs 0 0 Q (F0 m 34 ls []) := by
    intro  v3 v4 Fexponents h H locs ls hP hD hS hl
    unfold BX3_findDisagreement_34 at h
    refine lv_iload_n hx hb dX3_findDisagreement_34 rfl (lv_at hl 0 rfl) ?_
    refine lv_iload hx hb dX3_findDisagreement_35 (lv_at hl 1 rfl) ?_
    refine va_mmax hx hb (hml.trans hl.1.symm) hown mkmax msmax mimax mcmax (Nat.le_of_ble_eq_true rfl) (Nat.le_of_ble_eq_true rfl) (Nat.zero_le _) (Nat.zero_le _) dX3_findDisagreement_37 ?_
    have hP9 := hP
    have hD9 := hD
    have hS9 := hS
    subst hQ
    cases h
    exact W.iret hx hb hr (fun t ht hW => ⟨⟨_, (), rfl, rfl, by rw [ht]; exact hP9, va_K.moved hW.alike hK, hD9⟩, hS9.F ht⟩) hS9.2.2 dX3_findDisagreement_40
  suffices main : ∀ (H : Heap) (locs : List Loc) (ls : Array Slot), va_P D vwCl ((wF k aF Fkinds Flefts Frights Fplaces Fvalues Fslopes Fexponents Fsize Froot) ++ ([(qu, .inl (k 0, 6, .inl uA))]) ++ ([(qw, .inl (k 0, 6, .inl wA))])) H → va_D A ((wF k aF Fkinds Flefts Frights Fplaces Fvalues Fslopes Fexponents Fsize Froot) ++ ([(qu, .inl (k 0, 6, .inl uA))]) ++ ([(qw, .inl (k 0, 6, .inl wA))])) → va_S A s.heap H locs → lv_has ls 5 [(0, .ref (aF 0)), (1, .ref qu), (2, .ref qw)] → W p l e rmX3_findDisagreement s m args below meth c H locs 0 0 Q (F0 m 0 ls []) from main _ _ _ hP hD hS hl
  clear hP hD hS hl ls hAe
  intro H locs ls hP hD hS hl
  refine lv_aload_n hx hb dX3_findDisagreement_0 rfl (lv_at hl 0 rfl) ?_
  refine lv_aload_n hx hb dX3_findDisagreement_1 rfl (lv_at hl 1 rfl) ?_
  obtain ⟨r1, exponents_1, hc1, h⟩ := bnd2_inv h
  have hPc := hP.sub (ws' := ((wF k aF Fkinds Flefts Frights Fplaces Fvalues Fslopes Fexponents Fsize Froot) ++ ([(qu, .inl (k 0, 6, .inl uA))]))) [0, 1, 2, 3, 4, 5, 6, 7, 8] rfl
  have hDc := hD.sub (ws' := ((wF k aF Fkinds Flefts Frights Fplaces Fvalues Fslopes Fexponents Fsize Froot) ++ ([(qu, .inl (k 0, 6, .inl uA))]))) [0, 1, 2, 3, 4, 5, 6, 7, 8] rfl rfl
  have hFc := va_free (wc := ((wF k aF Fkinds Flefts Frights Fplaces Fvalues Fslopes Fexponents Fsize Froot) ++ ([(qu, .inl (k 0, 6, .inl uA))]))) hD hS hA [0, 1, 2, 3, 4, 5, 6, 7, 8] rfl
  refine xc_i (va_runV (As := [.ref qu]) (rest := []) ⟨hx, hb, hml, hown, hts⟩ (met_X3_exponentBy l D k  aF qu H.size Fkinds Flefts Frights Fplaces Fvalues Fslopes Fexponents Fsize Froot uA r1 exponents_1 hc1) (cwV 1 hts gX3_findDisagreement_X3_exponentBy rfl rfl rfl (by decide +kernel) ⟨Nat.le_of_ble_eq_true rfl, Nat.le_of_ble_eq_true rfl⟩) ⟨pw_blind, va_recv hK hPc (ci := 3) (q0 := 0) rfl rfl, pw_start hPc hK hDc⟩ rfl rfl hl.1 rfl (lv_room (Nat.le_of_ble_eq_true rfl)) dX3_findDisagreement_2 ⟨Nat.zero_le _, Nat.zero_le _⟩) hS hFc (fun H1 locs hP1 hD1 hk1 hS => ?_)
  obtain ⟨hP, hD⟩ := vj (ws' := ((wF k aF Fkinds Flefts Frights Fplaces Fvalues Fslopes exponents_1 Fsize Froot) ++ ([(qu, .inl (k 0, 6, .inl uA))]) ++ ([(qw, .inl (k 0, 6, .inl wA))]))) (w1 := ((wF k aF Fkinds Flefts Frights Fplaces Fvalues Fslopes exponents_1 Fsize Froot) ++ ([(qu, .inl (k 0, 6, .inl uA))]))) hP hD [0, 1, 2, 3, 4, 5, 6, 7, 8] [9] [1, 2, 3, 4, 5, 6, 7, 8, 9, 0] rfl rfl rfl rfl rfl hk1 hFc hP1 hD1
  clear hP1 hD1 hk1 hFc
  generalize H1 = H at hP hS ⊢
  refine lv_pop hx hb dX3_findDisagreement_5 rfl ?_
  refine lv_aload_n hx hb dX3_findDisagreement_6 rfl (lv_at hl 0 rfl) ?_
  obtain ⟨r2, hc2, h⟩ := bnd1_inv h
  have hPc := hP.sub (ws' := (wF k aF Fkinds Flefts Frights Fplaces Fvalues Fslopes exponents_1 Fsize Froot)) [0, 1, 2, 3, 4, 5, 6, 7] rfl
  have hDc := hD.sub (ws' := (wF k aF Fkinds Flefts Frights Fplaces Fvalues Fslopes exponents_1 Fsize Froot)) [0, 1, 2, 3, 4, 5, 6, 7] rfl rfl
  have hFc := va_free (wc := (wF k aF Fkinds Flefts Frights Fplaces Fvalues Fslopes exponents_1 Fsize Froot)) hD hS hA [0, 1, 2, 3, 4, 5, 6, 7] rfl
  refine xc_i (va_runV (As := []) (rest := []) ⟨hx, hb, hml, hown, hts⟩ (met_X3_findUnevenSides l D k  aF H.size Fkinds Flefts Frights Fplaces Fvalues Fslopes exponents_1 Fsize Froot r2 hc2) (cwV 0 hts gX3_findDisagreement_X3_findUnevenSides rfl rfl rfl (by decide +kernel) ⟨Nat.le_of_ble_eq_true rfl, Nat.le_of_ble_eq_true rfl⟩) ⟨pw_blind, va_recv hK hPc (ci := 3) (q0 := 0) rfl rfl, pw_start hPc hK hDc⟩ rfl rfl hl.1 rfl (lv_room (Nat.le_of_ble_eq_true rfl)) dX3_findDisagreement_7 ⟨Nat.zero_le _, Nat.zero_le _⟩) hS hFc (fun H1 locs hP1 hD1 hk1 hS => ?_)
  obtain ⟨hP, hD⟩ := vj (ws' := ((wF k aF Fkinds Flefts Frights Fplaces Fvalues Fslopes exponents_1 Fsize Froot) ++ ([(qu, .inl (k 0, 6, .inl uA))]) ++ ([(qw, .inl (k 0, 6, .inl wA))]))) (w1 := (wF k aF Fkinds Flefts Frights Fplaces Fvalues Fslopes exponents_1 Fsize Froot)) hP hD [0, 1, 2, 3, 4, 5, 6, 7] [8, 9] [2, 3, 4, 5, 6, 7, 8, 9, 0, 1] rfl rfl rfl rfl rfl hk1 hFc hP1 hD1
  clear hP1 hD1 hk1 hFc
  generalize H1 = H at hP hS ⊢
  refine lv_istore_n (lv' := [(3, .int r2), (0, .ref (aF 0)), (1, .ref qu), (2, .ref qw)]) hx hb dX3_findDisagreement_10 rfl hl (by decide) rfl (fun ls hl => ?_)
  refine lv_aload_n hx hb dX3_findDisagreement_11 rfl (lv_at hl 1 rfl) ?_
  refine lv_aload_n hx hb dX3_findDisagreement_12 rfl (lv_at hl 3 rfl) ?_
  obtain ⟨r3, exponents_3, hc3, h⟩ := bnd2_inv h
  have hPc := hP.sub (ws' := ((wF k aF Fkinds Flefts Frights Fplaces Fvalues Fslopes exponents_1 Fsize Froot) ++ ([(qw, .inl (k 0, 6, .inl wA))]))) [0, 1, 2, 3, 4, 5, 6, 7, 9] rfl
  have hDc := hD.sub (ws' := ((wF k aF Fkinds Flefts Frights Fplaces Fvalues Fslopes exponents_1 Fsize Froot) ++ ([(qw, .inl (k 0, 6, .inl wA))]))) [0, 1, 2, 3, 4, 5, 6, 7, 9] rfl rfl
  have hFc := va_free (wc := ((wF k aF Fkinds Flefts Frights Fplaces Fvalues Fslopes exponents_1 Fsize Froot) ++ ([(qw, .inl (k 0, 6, .inl wA))]))) hD hS hA [0, 1, 2, 3, 4, 5, 6, 7, 9] rfl
  refine xc_i (va_runV (As := [.ref qw]) (rest := []) ⟨hx, hb, hml, hown, hts⟩ (met_X3_exponentBy l D k  aF qw H.size Fkinds Flefts Frights Fplaces Fvalues Fslopes exponents_1 Fsize Froot wA r3 exponents_3 hc3) (cwV 1 hts gX3_findDisagreement_X3_exponentBy rfl rfl rfl (by decide +kernel) ⟨Nat.le_of_ble_eq_true rfl, Nat.le_of_ble_eq_true rfl⟩) ⟨pw_blind, va_recv hK hPc (ci := 3) (q0 := 0) rfl rfl, pw_start hPc hK hDc⟩ rfl rfl hl.1 rfl (lv_room (Nat.le_of_ble_eq_true rfl)) dX3_findDisagreement_13 ⟨Nat.zero_le _, Nat.zero_le _⟩) hS hFc (fun H1 locs hP1 hD1 hk1 hS => ?_)
  obtain ⟨hP, hD⟩ := vj (ws' := ((wF k aF Fkinds Flefts Frights Fplaces Fvalues Fslopes exponents_3 Fsize Froot) ++ ([(qu, .inl (k 0, 6, .inl uA))]) ++ ([(qw, .inl (k 0, 6, .inl wA))]))) (w1 := ((wF k aF Fkinds Flefts Frights Fplaces Fvalues Fslopes exponents_3 Fsize Froot) ++ ([(qw, .inl (k 0, 6, .inl wA))]))) hP hD [0, 1, 2, 3, 4, 5, 6, 7, 9] [8] [1, 2, 3, 4, 5, 6, 7, 8, 0, 9] rfl rfl rfl rfl rfl hk1 hFc hP1 hD1
  clear hP1 hD1 hk1 hFc
  generalize H1 = H at hP hS ⊢
  refine lv_pop hx hb dX3_findDisagreement_16 rfl ?_
  refine lv_aload_n hx hb dX3_findDisagreement_17 rfl (lv_at hl 1 rfl) ?_
  obtain ⟨r4, hc4, h⟩ := bnd1_inv h
  have hPc := hP.sub (ws' := (wF k aF Fkinds Flefts Frights Fplaces Fvalues Fslopes exponents_3 Fsize Froot)) [0, 1, 2, 3, 4, 5, 6, 7] rfl
  have hDc := hD.sub (ws' := (wF k aF Fkinds Flefts Frights Fplaces Fvalues Fslopes exponents_3 Fsize Froot)) [0, 1, 2, 3, 4, 5, 6, 7] rfl rfl
  have hFc := va_free (wc := (wF k aF Fkinds Flefts Frights Fplaces Fvalues Fslopes exponents_3 Fsize Froot)) hD hS hA [0, 1, 2, 3, 4, 5, 6, 7] rfl
  refine xc_i (va_runV (As := []) (rest := []) ⟨hx, hb, hml, hown, hts⟩ (met_X3_findUnevenSides l D k  aF H.size Fkinds Flefts Frights Fplaces Fvalues Fslopes exponents_3 Fsize Froot r4 hc4) (cwV 0 hts gX3_findDisagreement_X3_findUnevenSides rfl rfl rfl (by decide +kernel) ⟨Nat.le_of_ble_eq_true rfl, Nat.le_of_ble_eq_true rfl⟩) ⟨pw_blind, va_recv hK hPc (ci := 3) (q0 := 0) rfl rfl, pw_start hPc hK hDc⟩ rfl rfl hl.1 rfl (lv_room (Nat.le_of_ble_eq_true rfl)) dX3_findDisagreement_18 ⟨Nat.zero_le _, Nat.zero_le _⟩) hS hFc (fun H1 locs hP1 hD1 hk1 hS => ?_)
  obtain ⟨hP, hD⟩ := vj (ws' := ((wF k aF Fkinds Flefts Frights Fplaces Fvalues Fslopes exponents_3 Fsize Froot) ++ ([(qu, .inl (k 0, 6, .inl uA))]) ++ ([(qw, .inl (k 0, 6, .inl wA))]))) (w1 := (wF k aF Fkinds Flefts Frights Fplaces Fvalues Fslopes exponents_3 Fsize Froot)) hP hD [0, 1, 2, 3, 4, 5, 6, 7] [8, 9] [2, 3, 4, 5, 6, 7, 8, 9, 0, 1] rfl rfl rfl rfl rfl hk1 hFc hP1 hD1
  clear hP1 hD1 hk1 hFc
  generalize H1 = H at hP hS ⊢
  refine lv_istore (lv' := [(4, .int r4), (3, .int r2), (0, .ref (aF 0)), (1, .ref qu), (2, .ref qw)]) hx hb dX3_findDisagreement_21 hl (by decide) rfl (fun ls hl => ?_)
  refine lv_iload_n hx hb dX3_findDisagreement_23 rfl (lv_at hl 1 rfl) ?_
  refine lv_iconst (v := -1) hx hb dX3_findDisagreement_24 (by decide) ?_
  refine lv_icmp_eq (tgt := 34) hx hb dX3_findDisagreement_25 (by decide) (fun c5 => ?_) (fun c5 => ?_)
  · replace h := sf_t c5 h
    exact BH_34  _ _ _ h _ _ _ hP hD hS (lv_sub hl [1, 0] rfl)
  · replace h := sf_f c5 h
    refine lv_iload hx hb dX3_findDisagreement_28 (lv_at hl 0 rfl) ?_
    refine lv_iconst (v := -1) hx hb dX3_findDisagreement_30 (by decide) ?_
    refine lv_icmp_ne (tgt := 41) hx hb dX3_findDisagreement_31 (by decide) (fun c6 => ?_) (fun c6 => ?_)
    · replace h := sf_f c6 h
      refine lv_iload_n hx hb dX3_findDisagreement_41 rfl (lv_at hl 1 rfl) ?_
      refine lv_iload hx hb dX3_findDisagreement_42 (lv_at hl 0 rfl) ?_
      refine va_mmin hx hb (hml.trans hl.1.symm) hown mkmin msmin mimin mcmin (Nat.le_of_ble_eq_true rfl) (Nat.le_of_ble_eq_true rfl) (Nat.zero_le _) (Nat.zero_le _) dX3_findDisagreement_44 ?_
      have hP9 := hP
      have hD9 := hD
      have hS9 := hS
      subst hQ
      cases h
      exact W.iret hx hb hr (fun t ht hW => ⟨⟨_, (), rfl, rfl, by rw [ht]; exact hP9, va_K.moved hW.alike hK, hD9⟩, hS9.F ht⟩) hS9.2.2 dX3_findDisagreement_47
    · replace h := sf_t c6 h
      exact BH_34  _ _ _ h _ _ _ hP hD hS (lv_sub hl [1, 0] rfl)
