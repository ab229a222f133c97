def LX2_find_2 (Vdegrees : Nat → Int32) (Vcount : Int32) (v1 : Int32) (E26 : Int32 → Option (Int32)) : Nat → Int32 → Option (Int32)
  | 0, _ => none
  | fuel + 1, v2 => (if Vcount ≤ v2 then E26 v2 else gi v2 12 ((if (Vdegrees v2.toNatClampNeg) = v1 then E26 v2 else LX2_find_2 Vdegrees Vcount v1 E26 fuel (v2 + 1))))
def fX2_find (v1 : Int32) (Vdegrees : Nat → Int32) (Vcount : Int32) : Option (Int32) := LX2_find_2 Vdegrees Vcount v1 (fun (v2 : Int32) => some (v2)) 1000 0
abbrev rmX2_find : Room := { frames := 0, cells := 0, slots := 0, locals := 0 }
set_option maxHeartbeats 4000000 in
set_option maxRecDepth 100000 in
theorem met_X2_find (l : Launch) (D : va_G) (k : Nat → ClassId)  (aV : Nat → Nat) (sz : Nat) (Vdegrees : Nat → Int32) (Vfactors : Nat → Int32) (Vcount : Int32) (v1 : Int32) (r : Int32) (h : fX2_find v1 Vdegrees Vcount = some r) : Met l yX2_find wsX2_find rmX2_find (va_Pc [.ref (aV 0), .int v1] (PreW D k (wV k aV Vdegrees Vfactors Vcount) sz)) (va_Qi (fun r9 (_ : Unit) => r9 = r) (fun _ t => PostW D k (va_A (wV k aV Vdegrees Vfactors Vcount) sz) (wV k aV Vdegrees Vfactors Vcount) t) (va_A (wV k aV Vdegrees Vfactors Vcount) sz)) 0 0 (va_A (wV k aV Vdegrees Vfactors Vcount) sz) := by
  refine Met.ofW (cc := cX2_find) (maxL := 3) (ret := (some .int)) (by decide) rfl ?_
  intro p e s m args below meth c s₁ B hml hv
  obtain ⟨hav, hsz, hP, hK, hD0⟩ := hv
  have hx := B.exec
  have hb := B.bytes
  have hr := B.returns
  have hts := atoms_spec (ws := wsX2_find) B.pre
  have hown : s.vm.findClass RX2 = some m.cls := findClass_of_methodNamed B.named
  have hlocks := B.notSynchronized
  subst hsz
  have hD := hD0.self (sz := s.heap.size)
  clear hD0
  generalize hAe : va_A (wV k aV Vdegrees Vfactors Vcount) s.heap.size = A at hD ⊢
  have hA : ∀ q : Nat, s.heap.size ≤ q → A q := fun q h => by rw [← hAe]; exact Or.inr h
  have hS : va_S A s.heap s.heap [] := va_S.rf
  have hl := lv_entry ([.ref (aV 0), .int v1]) (n := 3) (Nat.le_of_ble_eq_true rfl)
  rw [show entryFrame m args 3 = entryFrame m ([.ref (aV 0), .int v1] : List Value).toArray 3 from by rw [hav], lg_entry_eq]
  generalize (lg_sl ([.ref (aV 0), .int v1]) ++ List.replicate (3 - (lg_sl ([.ref (aV 0), .int v1])).length) Slot.unset).toArray = ls at hl ⊢
  replace hl : lv_has ls 3 [(0, .ref (aV 0)), (1, .int v1)] := hl
  have f9 := hts (.fieldLink RX2 9 "UncertainBook$Coverage" "degrees" "[I") (by decide +kernel)
  have f18 := hts (.fieldLink RX2 18 "UncertainBook$Coverage" "count" "I") (by decide +kernel)
  have iX2 : ∀ w ∈ u_ws RX2 TX2 3, w ∈ wsX2_find := by decide +kernel
  refine w_q (fun Q hQ => ?_)
  unfold fX2_find at h
  show W p l e rmX2_find s m args below meth c s.heap [] 0 0 Q (F0 m 0 ls [])
  have LH_2 : ∀ (E26 : Int32 → Option (Int32)) (hE26 : ∀ (v2 : Int32), E26 v2 = some r → ∀ (H : Heap) (locs : List Loc) (ls : Array Slot), va_P D vwCl (wV k aV Vdegrees Vfactors Vcount) H → va_D A (wV k aV Vdegrees Vfactors Vcount) → va_S A s.heap H locs → lv_has ls 3 [(2, .int v2)] → W p l e rmX2_find s m args below meth c H locs 0 0 Q (F0 m 26 ls [])) (n : Nat) (v2 : Int32), LX2_find_2 Vdegrees Vcount v1 E26 n v2 = some r → ∀ (H : Heap) (locs : List Loc) (ls : Array Slot), va_P D vwCl (wV k aV Vdegrees Vfactors Vcount) H → va_D A (wV k aV Vdegrees Vfactors Vcount) → va_S A s.heap H locs → lv_has ls 3 [(0, .ref (aV 0)), (1, .int v1), (2, .int v2)] → W p l e rmX2_find s m args below meth c H locs 0 0 Q (F0 m 2 ls []) := by
    intro E26 hE26 n
    induction n with
    | zero => intro v2 h; simp [LX2_find_2] at h
    | succ n ih =>
    intro v2 h H locs ls hP hD hS hl
    rw [LX2_find_2] at h
    refine lv_iload_n hx hb dX2_find_2 rfl (lv_at hl 2 rfl) ?_
    refine lv_aload_n hx hb dX2_find_3 rfl (lv_at hl 0 rfl) ?_
    refine va_get (D := D) (ci := 2) (v := .int Vcount) (C := RX2) (T := TX2) (N := 3) hx hb hts iX2 hown hK hP 0 rfl rfl 2 (by decide) f18 (fun _ h9 => h9) rfl dX2_find_4 ?_
    refine lv_icmp_ge (tgt := 26) hx hb dX2_find_7 (by decide) (fun c1 => ?_) (fun c1 => ?_)
    · replace h := sf_t c1 h
      exact hE26 _ h _ _ _ hP hD hS (lv_sub hl [2] rfl)
    · replace h := sf_f c1 h
      refine lv_aload_n hx hb dX2_find_10 rfl (lv_at hl 0 rfl) ?_
      refine va_get (D := D) (ci := 2) (v := .ref (aV 1)) (C := RX2) (T := TX2) (N := 3) hx hb hts iX2 hown hK hP 0 rfl rfl 0 (by decide) f9 (fun _ h9 => h9) rfl dX2_find_11 ?_
      refine lv_iload_n hx hb dX2_find_14 rfl (lv_at hl 2 rfl) ?_
      obtain ⟨hi2, h⟩ := gi_inv h
      refine va_iald hx hb hK hP 1 0 rfl rfl hi2 dX2_find_15 ?_
      refine lv_iload_n hx hb dX2_find_16 rfl (lv_at hl 1 rfl) ?_
      refine lv_icmp_eq (tgt := 26) hx hb dX2_find_17 (by decide) (fun c3 => ?_) (fun c3 => ?_)
      · replace h := sf_t c3 h
        exact hE26 _ h _ _ _ hP hD hS (lv_sub hl [2] rfl)
      · replace h := sf_f c3 h
        refine lv_iinc (v := v2 + 1) (lv' := [(2, .int (v2 + 1)), (0, .ref (aV 0)), (1, .int v1)]) hx hb dX2_find_20 hl (k := 2) rfl rfl (by decide) rfl (fun ls hl => ?_)
        refine lv_goto (tgt := 2) hx hb dX2_find_23 (by decide) ?_
        exact ih _ h _ _ _ hP hD hS (lv_sub hl [1, 2, 0] rfl)
  suffices main : ∀ (H : Heap) (locs : List Loc) (ls : Array Slot), va_P D vwCl (wV k aV Vdegrees Vfactors Vcount) H → va_D A (wV k aV Vdegrees Vfactors Vcount) → va_S A s.heap H locs → lv_has ls 3 [(0, .ref (aV 0)), (1, .int v1)] → W p l e rmX2_find s m args below meth c H locs 0 0 Q (F0 m 0 ls []) from main _ _ _ hP hD hS hl
  clear hP hD hS hl ls hAe
  intro H locs ls hP hD hS hl
  refine lv_iconst (v := 0) hx hb dX2_find_0 (by decide) ?_
  refine lv_istore_n (lv' := [(2, .int 0), (0, .ref (aV 0)), (1, .int v1)]) hx hb dX2_find_1 rfl hl (by decide) rfl (fun ls hl => ?_)
  refine LH_2 _ (fun v2 h H locs ls hP hD hS hl => ?_) _ _ h _ _ _ hP hD hS (lv_sub hl [1, 2, 0] rfl)
  · skip
    refine lv_iload_n hx hb dX2_find_26 rfl (lv_at hl 0 rfl) ?_
    have hP9 := hP
    have hD9 := hD
    have hS9 := hS
    subst hQ
    cases h
    exact W.iret hx hb hr (fun t ht hW => ⟨⟨_, (), rfl, rfl, by rw [ht]; exact hP9, va_K.moved hW.alike hK, hD9⟩, hS9.F ht⟩) hS9.2.2 dX2_find_27
def fX2_hasRoomFor (v1 : Int32) (Vdegrees : Nat → Int32) (Vcount : Int32) : Option (Int32) := bnd1 (fX2_find v1 Vdegrees Vcount) (fun r1 => (if 12 ≤ r1 then some (0) else some (1)))
abbrev rmX2_hasRoomFor : Room := { frames := 1, cells := 0, slots := 0, locals := 22 }
set_option maxHeartbeats 4000000 in
set_option maxRecDepth 100000 in
theorem met_X2_hasRoomFor (l : Launch) (D : va_G) (k : Nat → ClassId)  (aV : Nat → Nat) (sz : Nat) (Vdegrees : Nat → Int32) (Vfactors : Nat → Int32) (Vcount : Int32) (v1 : Int32) (r : Int32) (h : fX2_hasRoomFor v1 Vdegrees Vcount = some r) : Met l yX2_hasRoomFor wsX2_hasRoomFor rmX2_hasRoomFor (va_Pc [.ref (aV 0), .int v1] (PreW D k (wV k aV Vdegrees Vfactors Vcount) sz)) (va_Qi (fun r9 (_ : Unit) => r9 = r) (fun _ t => PostW D k (va_A (wV k aV Vdegrees Vfactors Vcount) sz) (wV k aV Vdegrees Vfactors Vcount) t) (va_A (wV k aV Vdegrees Vfactors Vcount) sz)) 0 0 (va_A (wV k aV Vdegrees Vfactors Vcount) sz) := by
  refine Met.ofW (cc := cX2_hasRoomFor) (maxL := 2) (ret := (some .boolean)) (by decide) rfl ?_
  intro p e s m args below meth c s₁ B hml hv
  obtain ⟨hav, hsz, hP, hK, hD0⟩ := hv
  have hx := B.exec
  have hb := B.bytes
  have hr := B.returns
  have hts := atoms_spec (ws := wsX2_hasRoomFor) B.pre
  have hown : s.vm.findClass RX2 = some m.cls := findClass_of_methodNamed B.named
  have hlocks := B.notSynchronized
  subst hsz
  have hD := hD0.self (sz := s.heap.size)
  clear hD0
  generalize hAe : va_A (wV k aV Vdegrees Vfactors Vcount) s.heap.size = A at hD ⊢
  have hA : ∀ q : Nat, s.heap.size ≤ q → A q := fun q h => by rw [← hAe]; exact Or.inr h
  have hS : va_S A s.heap s.heap [] := va_S.rf
  have hl := lv_entry ([.ref (aV 0), .int v1]) (n := 2) (Nat.le_of_ble_eq_true rfl)
  rw [show entryFrame m args 2 = entryFrame m ([.ref (aV 0), .int v1] : List Value).toArray 2 from by rw [hav], lg_entry_eq]
  generalize (lg_sl ([.ref (aV 0), .int v1]) ++ List.replicate (2 - (lg_sl ([.ref (aV 0), .int v1])).length) Slot.unset).toArray = ls at hl ⊢
  replace hl : lv_has ls 2 [(0, .ref (aV 0)), (1, .int v1)] := hl
  refine w_q (fun Q hQ => ?_)
  unfold fX2_hasRoomFor at h
  show W p l e rmX2_hasRoomFor s m args below meth c s.heap [] 0 0 Q (F0 m 0 ls [])
  suffices main : ∀ (H : Heap) (locs : List Loc) (ls : Array Slot), va_P D vwCl (wV k aV Vdegrees Vfactors Vcount) H → va_D A (wV k aV Vdegrees Vfactors Vcount) → va_S A s.heap H locs → lv_has ls 2 [(0, .ref (aV 0)), (1, .int v1)] → W p l e rmX2_hasRoomFor s m args below meth c H locs 0 0 Q (F0 m 0 ls []) from main _ _ _ hP hD hS hl
  clear hP hD hS hl ls hAe
  intro H locs ls hP hD hS hl
  refine lv_aload_n hx hb dX2_hasRoomFor_0 rfl (lv_at hl 0 rfl) ?_
  refine lv_iload_n hx hb dX2_hasRoomFor_1 rfl (lv_at hl 1 rfl) ?_
  obtain ⟨r1, hc1, h⟩ := bnd1_inv h
  have hFc := va_free (wc := (wV k aV Vdegrees Vfactors Vcount)) hD hS hA [0, 1, 2] rfl
  refine xc_i (va_runV (As := [.int v1]) (rest := []) ⟨hx, hb, hml, hown, hts⟩ (met_X2_find l D k  aV H.size Vdegrees Vfactors Vcount v1 r1 hc1) (cwV 1 hts gX2_hasRoomFor_X2_find rfl rfl rfl (by decide +kernel) ⟨Nat.le_of_ble_eq_true rfl, Nat.le_of_ble_eq_true rfl⟩) ⟨pw_blind, va_recv hK hP (ci := 2) (q0 := 0) rfl rfl, pw_start hP hK hD⟩ rfl rfl hl.1 rfl (lv_room (Nat.le_of_ble_eq_true rfl)) dX2_hasRoomFor_2 ⟨Nat.zero_le _, Nat.zero_le _⟩) hS hFc (fun H1 locs hP1 hD1 hk1 hS => ?_)
  obtain ⟨hP, hD⟩ := vj_all hFc hP1 hD1
  clear hP1 hD1 hk1 hFc
  generalize H1 = H at hP hS ⊢
  refine lv_bipush (v := 12) hx hb dX2_hasRoomFor_5 (by decide) ?_
  refine lv_icmp_ge (tgt := 14) hx hb dX2_hasRoomFor_7 (by decide) (fun c2 => ?_) (fun c2 => ?_)
  · replace h := sf_t c2 h
    refine lv_iconst (v := 0) hx hb dX2_hasRoomFor_14 (by decide) ?_
    have hP9 := hP
    have hD9 := hD
    have hS9 := hS
    subst hQ
    cases h
    exact W.zret hx hb hr rfl (fun t ht hW => ⟨⟨_, (), rfl, rfl, by rw [ht]; exact hP9, va_K.moved hW.alike hK, hD9⟩, hS9.F ht⟩) hS9.2.2 dX2_hasRoomFor_15
  · replace h := sf_f c2 h
    refine lv_iconst (v := 1) hx hb dX2_hasRoomFor_10 (by decide) ?_
    refine lv_goto (tgt := 15) hx hb dX2_hasRoomFor_11 (by decide) ?_
    have hP9 := hP
    have hD9 := hD
    have hS9 := hS
    subst hQ
    cases h
    exact W.zret hx hb hr rfl (fun t ht hW => ⟨⟨_, (), rfl, rfl, by rw [ht]; exact hP9, va_K.moved hW.alike hK, hD9⟩, hS9.F ht⟩) hS9.2.2 dX2_hasRoomFor_15
def fX2_put (v1 : Int32) (v2 : Int32) (Vdegrees : Nat → Int32) (Vfactors : Nat → Int32) (Vcount : Int32) : Option ((Nat → Int32) × (Nat → Int32) × Int32) := bnd1 (fX2_find v1 Vdegrees Vcount) (fun r1 => (if 12 ≤ r1 then some (Vdegrees, Vfactors, Vcount) else gi r1 12 (gi r1 12 (some (upd Vdegrees (r1.toNatClampNeg) v1, upd Vfactors (r1.toNatClampNeg) v2, if Vcount < (r1 + 1) then (r1 + 1) else Vcount)))))
abbrev rmX2_put : Room := { frames := 1, cells := 0, slots := 0, locals := 22 }
set_option maxHeartbeats 4000000 in
set_option maxRecDepth 100000 in
theorem met_X2_put (l : Launch) (D : va_G) (k : Nat → ClassId)  (aV : Nat → Nat) (sz : Nat) (Vdegrees : Nat → Int32) (Vfactors : Nat → Int32) (Vcount : Int32) (v1 : Int32) (v2 : Int32) (RVdegrees : Nat → Int32) (RVfactors : Nat → Int32) (RVcount : Int32) (h : fX2_put v1 v2 Vdegrees Vfactors Vcount = some (RVdegrees, RVfactors, RVcount)) : Met l yX2_put wsX2_put rmX2_put (va_Pc [.ref (aV 0), .int v1, .int v2] (PreW D k (wV k aV Vdegrees Vfactors Vcount) sz)) (va_Qv (fun _ : Unit => True) (fun _ t => PostW D k (va_A (wV k aV Vdegrees Vfactors Vcount) sz) (wV k aV RVdegrees RVfactors RVcount) t) (va_A (wV k aV Vdegrees Vfactors Vcount) sz)) 0 0 (va_A (wV k aV Vdegrees Vfactors Vcount) sz) := by
  refine Met.ofW (cc := cX2_put) (maxL := 4) (ret := none) (by decide) rfl ?_
  intro p e s m args below meth c s₁ B hml hv
  obtain ⟨hav, hsz, hP, hK, hD0⟩ := hv
  have hx := B.exec
  have hb := B.bytes
  have hr := B.returns
  have hts := atoms_spec (ws := wsX2_put) B.pre
  have hown : s.vm.findClass RX2 = some m.cls := findClass_of_methodNamed B.named
  have hlocks := B.notSynchronized
  subst hsz
  have hD := hD0.self (sz := s.heap.size)
  clear hD0
  generalize hAe : va_A (wV k aV Vdegrees Vfactors Vcount) s.heap.size = A at hD ⊢
  have hA : ∀ q : Nat, s.heap.size ≤ q → A q := fun q h => by rw [← hAe]; exact Or.inr h
  have hS : va_S A s.heap s.heap [] := va_S.rf
  have hl := lv_entry ([.ref (aV 0), .int v1, .int v2]) (n := 4) (Nat.le_of_ble_eq_true rfl)
  rw [show entryFrame m args 4 = entryFrame m ([.ref (aV 0), .int v1, .int v2] : List Value).toArray 4 from by rw [hav], lg_entry_eq]
  generalize (lg_sl ([.ref (aV 0), .int v1, .int v2]) ++ List.replicate (4 - (lg_sl ([.ref (aV 0), .int v1, .int v2])).length) Slot.unset).toArray = ls at hl ⊢
  replace hl : lv_has ls 4 [(0, .ref (aV 0)), (1, .int v1), (2, .int v2)] := hl
  have f9 := hts (.fieldLink RX2 9 "UncertainBook$Coverage" "degrees" "[I") (by decide +kernel)
  have f15 := hts (.fieldLink RX2 15 "UncertainBook$Coverage" "factors" "[I") (by decide +kernel)
  have f18 := hts (.fieldLink RX2 18 "UncertainBook$Coverage" "count" "I") (by decide +kernel)
  have mkmax := hts (.methodLink RX2 26 Lib.Math.max.name) (by decide +kernel)
  have msmax := hts (.static Lib.Math.max.name) (by decide +kernel)
  have mimax := hts (.initialized "java/lang/Math") (by decide +kernel)
  have mcmax := hts (.code Lib.Math.max.name Lib.Math.max.code 2 (some .int)) (by decide +kernel)
  have iX2 : ∀ w ∈ u_ws RX2 TX2 3, w ∈ wsX2_put := by decide +kernel
  refine w_q (fun Q hQ => ?_)
  unfold fX2_put at h
  show W p l e rmX2_put s m args below meth c s.heap [] 0 0 Q (F0 m 0 ls [])
  suffices main : ∀ (H : Heap) (locs : List Loc) (ls : Array Slot), va_P D vwCl (wV k aV Vdegrees Vfactors Vcount) H → va_D A (wV k aV Vdegrees Vfactors Vcount) → va_S A s.heap H locs → lv_has ls 4 [(0, .ref (aV 0)), (1, .int v1), (2, .int v2)] → W p l e rmX2_put s m args below meth c H locs 0 0 Q (F0 m 0 ls []) from main _ _ _ hP hD hS hl
  clear hP hD hS hl ls hAe
  intro H locs ls hP hD hS hl
  refine lv_aload_n hx hb dX2_put_0 rfl (lv_at hl 0 rfl) ?_
  refine lv_iload_n hx hb dX2_put_1 rfl (lv_at hl 1 rfl) ?_
  obtain ⟨r1, hc1, h⟩ := bnd1_inv h
  have hFc := va_free (wc := (wV k aV Vdegrees Vfactors Vcount)) hD hS hA [0, 1, 2] rfl
  refine xc_i (va_runV (As := [.int v1]) (rest := []) ⟨hx, hb, hml, hown, hts⟩ (met_X2_find l D k  aV H.size Vdegrees Vfactors Vcount v1 r1 hc1) (cwV 1 hts gX2_put_X2_find rfl rfl rfl (by decide +kernel) ⟨Nat.le_of_ble_eq_true rfl, Nat.le_of_ble_eq_true rfl⟩) ⟨pw_blind, va_recv hK hP (ci := 2) (q0 := 0) rfl rfl, pw_start hP hK hD⟩ rfl rfl hl.1 rfl (lv_room (Nat.le_of_ble_eq_true rfl)) dX2_put_2 ⟨Nat.zero_le _, Nat.zero_le _⟩) hS hFc (fun H1 locs hP1 hD1 hk1 hS => ?_)
  obtain ⟨hP, hD⟩ := vj_all hFc hP1 hD1
  clear hP1 hD1 hk1 hFc
  generalize H1 = H at hP hS ⊢
  refine lv_istore_n (lv' := [(3, .int r1), (0, .ref (aV 0)), (1, .int v1), (2, .int v2)]) hx hb dX2_put_5 rfl hl (by decide) rfl (fun ls hl => ?_)
  refine lv_iload_n hx hb dX2_put_6 rfl (lv_at hl 0 rfl) ?_
  refine lv_bipush (v := 12) hx hb dX2_put_7 (by decide) ?_
  refine lv_icmp_ge (tgt := 40) hx hb dX2_put_9 (by decide) (fun c2 => ?_) (fun c2 => ?_)
  · replace h := sf_t c2 h
    have hP9 := hP
    have hD9 := hD
    have hS9 := hS
    subst hQ
    cases h
    exact W.vret hx hb hr (fun t ht hW => ⟨⟨(), rfl, trivial, by rw [ht]; exact hP9, va_K.moved hW.alike hK, hD9⟩, hS9.F ht⟩) hS9.2.2 dX2_put_40
  · replace h := sf_f c2 h
    refine lv_aload_n hx hb dX2_put_12 rfl (lv_at hl 1 rfl) ?_
    refine va_get (D := D) (ci := 2) (v := .ref (aV 1)) (C := RX2) (T := TX2) (N := 3) hx hb hts iX2 hown hK hP 0 rfl rfl 0 (by decide) f9 (fun _ h9 => h9) rfl dX2_put_13 ?_
    refine lv_iload_n hx hb dX2_put_16 rfl (lv_at hl 0 rfl) ?_
    refine lv_iload_n hx hb dX2_put_17 rfl (lv_at hl 2 rfl) ?_
    obtain ⟨hi3, h⟩ := gi_inv h
    refine va_iast hx hb hK hP hD hS 1 0 rfl rfl hi3 dX2_put_18 (fun H locs hP hD hS => ?_)
    replace hP : va_P D vwCl (wV k aV (upd Vdegrees (r1.toNatClampNeg) v1) Vfactors Vcount) H := hP
    replace hD : va_D A (wV k aV (upd Vdegrees (r1.toNatClampNeg) v1) Vfactors Vcount) := hD
    refine lv_aload_n hx hb dX2_put_19 rfl (lv_at hl 1 rfl) ?_
    refine va_get (D := D) (ci := 2) (v := .ref (aV 2)) (C := RX2) (T := TX2) (N := 3) hx hb hts iX2 hown hK hP 0 rfl rfl 1 (by decide) f15 (fun _ h9 => h9) rfl dX2_put_20 ?_
    refine lv_iload_n hx hb dX2_put_23 rfl (lv_at hl 0 rfl) ?_
    refine lv_iload_n hx hb dX2_put_24 rfl (lv_at hl 3 rfl) ?_
    obtain ⟨hi4, h⟩ := gi_inv h
    refine va_iast hx hb hK hP hD hS 2 0 rfl rfl hi4 dX2_put_25 (fun H locs hP hD hS => ?_)
    replace hP : va_P D vwCl (wV k aV (upd Vdegrees (r1.toNatClampNeg) v1) (upd Vfactors (r1.toNatClampNeg) v2) Vcount) H := hP
    replace hD : va_D A (wV k aV (upd Vdegrees (r1.toNatClampNeg) v1) (upd Vfactors (r1.toNatClampNeg) v2) Vcount) := hD
    refine lv_aload_n hx hb dX2_put_26 rfl (lv_at hl 1 rfl) ?_
    refine lv_aload_n hx hb dX2_put_27 rfl (lv_at hl 1 rfl) ?_
    refine va_get (D := D) (ci := 2) (v := .int Vcount) (C := RX2) (T := TX2) (N := 3) hx hb hts iX2 hown hK hP 0 rfl rfl 2 (by decide) f18 (fun _ h9 => h9) rfl dX2_put_28 ?_
    refine lv_iload_n hx hb dX2_put_31 rfl (lv_at hl 0 rfl) ?_
    refine lv_iconst (v := 1) hx hb dX2_put_32 (by decide) ?_
    refine lv_iadd hx hb dX2_put_33 ?_
    refine va_mmax hx hb (hml.trans hl.1.symm) hown mkmax msmax mimax mcmax (Nat.le_of_ble_eq_true rfl) (Nat.le_of_ble_eq_true rfl) (Nat.zero_le _) (Nat.zero_le _) dX2_put_34 ?_
    refine va_put (D := D) (ci := 2) (v := .int (if Vcount < (r1 + 1) then (r1 + 1) else Vcount)) (ty := .int) (C := RX2) (T := TX2) (N := 3) hx hb hts iX2 tyX2 tyX2_ok nmX2 hown hK hP hD hS 0 rfl rfl 2 (by decide) f18 (fun _ h9 => h9) rfl (by decide +kernel) rfl rfl (Nat.le_of_ble_eq_true rfl) dX2_put_37 (fun H locs hP hD hS => ?_)
    replace hP : va_P D vwCl (wV k aV (upd Vdegrees (r1.toNatClampNeg) v1) (upd Vfactors (r1.toNatClampNeg) v2) (if Vcount < (r1 + 1) then (r1 + 1) else Vcount)) H := hP
    replace hD : va_D A (wV k aV (upd Vdegrees (r1.toNatClampNeg) v1) (upd Vfactors (r1.toNatClampNeg) v2) (if Vcount < (r1 + 1) then (r1 + 1) else Vcount)) := hD
    have hP9 := hP
    have hD9 := hD
    have hS9 := hS
    subst hQ
    cases h
    exact W.vret hx hb hr (fun t ht hW => ⟨⟨(), rfl, trivial, by rw [ht]; exact hP9, va_K.moved hW.alike hK, hD9⟩, hS9.F ht⟩) hS9.2.2 dX2_put_40
def fX2_remove (v1 : Int32) (Vdegrees : Nat → Int32) (Vfactors : Nat → Int32) (Vcount : Int32) : Option ((Nat → Int32) × (Nat → Int32) × Int32) := bnd1 (fX2_find v1 Vdegrees Vcount) (fun r1 => (if Vcount ≤ r1 then some (Vdegrees, Vfactors, Vcount) else gi (Vcount - 1) 12 (gi r1 12 (gi (Vcount - 1) 12 (gi r1 12 (some (upd Vdegrees (r1.toNatClampNeg) (Vdegrees (Vcount - 1).toNatClampNeg), upd Vfactors (r1.toNatClampNeg) (Vfactors (Vcount - 1).toNatClampNeg), Vcount - 1)))))))
abbrev rmX2_remove : Room := { frames := 1, cells := 0, slots := 0, locals := 22 }
set_option maxHeartbeats 4000000 in
set_option maxRecDepth 100000 in
theorem met_X2_remove (l : Launch) (D : va_G) (k : Nat → ClassId)  (aV : Nat → Nat) (sz : Nat) (Vdegrees : Nat → Int32) (Vfactors : Nat → Int32) (Vcount : Int32) (v1 : Int32) (RVdegrees : Nat → Int32) (RVfactors : Nat → Int32) (RVcount : Int32) (h : fX2_remove v1 Vdegrees Vfactors Vcount = some (RVdegrees, RVfactors, RVcount)) : Met l yX2_remove wsX2_remove rmX2_remove (va_Pc [.ref (aV 0), .int v1] (PreW D k (wV k aV Vdegrees Vfactors Vcount) sz)) (va_Qv (fun _ : Unit => True) (fun _ t => PostW D k (va_A (wV k aV Vdegrees Vfactors Vcount) sz) (wV k aV RVdegrees RVfactors RVcount) t) (va_A (wV k aV Vdegrees Vfactors Vcount) sz)) 0 0 (va_A (wV k aV Vdegrees Vfactors Vcount) sz) := by
  refine Met.ofW (cc := cX2_remove) (maxL := 3) (ret := none) (by decide) rfl ?_
  intro p e s m args below meth c s₁ B hml hv
  obtain ⟨hav, hsz, hP, hK, hD0⟩ := hv
  have hx := B.exec
  have hb := B.bytes
  have hr := B.returns
  have hts := atoms_spec (ws := wsX2_remove) B.pre
  have hown : s.vm.findClass RX2 = some m.cls := findClass_of_methodNamed B.named
  have hlocks := B.notSynchronized
  subst hsz
  have hD := hD0.self (sz := s.heap.size)
  clear hD0
  generalize hAe : va_A (wV k aV Vdegrees Vfactors Vcount) s.heap.size = A at hD ⊢
  have hA : ∀ q : Nat, s.heap.size ≤ q → A q := fun q h => by rw [← hAe]; exact Or.inr h
  have hS : va_S A s.heap s.heap [] := va_S.rf
  have hl := lv_entry ([.ref (aV 0), .int v1]) (n := 3) (Nat.le_of_ble_eq_true rfl)
  rw [show entryFrame m args 3 = entryFrame m ([.ref (aV 0), .int v1] : List Value).toArray 3 from by rw [hav], lg_entry_eq]
  generalize (lg_sl ([.ref (aV 0), .int v1]) ++ List.replicate (3 - (lg_sl ([.ref (aV 0), .int v1])).length) Slot.unset).toArray = ls at hl ⊢
  replace hl : lv_has ls 3 [(0, .ref (aV 0)), (1, .int v1)] := hl
  have f9 := hts (.fieldLink RX2 9 "UncertainBook$Coverage" "degrees" "[I") (by decide +kernel)
  have f15 := hts (.fieldLink RX2 15 "UncertainBook$Coverage" "factors" "[I") (by decide +kernel)
  have f18 := hts (.fieldLink RX2 18 "UncertainBook$Coverage" "count" "I") (by decide +kernel)
  have iX2 : ∀ w ∈ u_ws RX2 TX2 3, w ∈ wsX2_remove := by decide +kernel
  refine w_q (fun Q hQ => ?_)
  unfold fX2_remove at h
  show W p l e rmX2_remove s m args below meth c s.heap [] 0 0 Q (F0 m 0 ls [])
  suffices main : ∀ (H : Heap) (locs : List Loc) (ls : Array Slot), va_P D vwCl (wV k aV Vdegrees Vfactors Vcount) H → va_D A (wV k aV Vdegrees Vfactors Vcount) → va_S A s.heap H locs → lv_has ls 3 [(0, .ref (aV 0)), (1, .int v1)] → W p l e rmX2_remove s m args below meth c H locs 0 0 Q (F0 m 0 ls []) from main _ _ _ hP hD hS hl
  clear hP hD hS hl ls hAe
  intro H locs ls hP hD hS hl
  refine lv_aload_n hx hb dX2_remove_0 rfl (lv_at hl 0 rfl) ?_
  refine lv_iload_n hx hb dX2_remove_1 rfl (lv_at hl 1 rfl) ?_
  obtain ⟨r1, hc1, h⟩ := bnd1_inv h
  have hFc := va_free (wc := (wV k aV Vdegrees Vfactors Vcount)) hD hS hA [0, 1, 2] rfl
  refine xc_i (va_runV (As := [.int v1]) (rest := []) ⟨hx, hb, hml, hown, hts⟩ (met_X2_find l D k  aV H.size Vdegrees Vfactors Vcount v1 r1 hc1) (cwV 1 hts gX2_remove_X2_find rfl rfl rfl (by decide +kernel) ⟨Nat.le_of_ble_eq_true rfl, Nat.le_of_ble_eq_true rfl⟩) ⟨pw_blind, va_recv hK hP (ci := 2) (q0 := 0) rfl rfl, pw_start hP hK hD⟩ rfl rfl hl.1 rfl (lv_room (Nat.le_of_ble_eq_true rfl)) dX2_remove_2 ⟨Nat.zero_le _, Nat.zero_le _⟩) hS hFc (fun H1 locs hP1 hD1 hk1 hS => ?_)
  obtain ⟨hP, hD⟩ := vj_all hFc hP1 hD1
  clear hP1 hD1 hk1 hFc
  generalize H1 = H at hP hS ⊢
  refine lv_istore_n (lv' := [(2, .int r1), (0, .ref (aV 0)), (1, .int v1)]) hx hb dX2_remove_5 rfl hl (by decide) rfl (fun ls hl => ?_)
  refine lv_iload_n hx hb dX2_remove_6 rfl (lv_at hl 0 rfl) ?_
  refine lv_aload_n hx hb dX2_remove_7 rfl (lv_at hl 1 rfl) ?_
  refine va_get (D := D) (ci := 2) (v := .int Vcount) (C := RX2) (T := TX2) (N := 3) hx hb hts iX2 hown hK hP 0 rfl rfl 2 (by decide) f18 (fun _ h9 => h9) rfl dX2_remove_8 ?_
  refine lv_icmp_ge (tgt := 54) hx hb dX2_remove_11 (by decide) (fun c2 => ?_) (fun c2 => ?_)
  · replace h := sf_t c2 h
    have hP9 := hP
    have hD9 := hD
    have hS9 := hS
    subst hQ
    cases h
    exact W.vret hx hb hr (fun t ht hW => ⟨⟨(), rfl, trivial, by rw [ht]; exact hP9, va_K.moved hW.alike hK, hD9⟩, hS9.F ht⟩) hS9.2.2 dX2_remove_54
  · replace h := sf_f c2 h
    refine lv_aload_n hx hb dX2_remove_14 rfl (lv_at hl 1 rfl) ?_
    refine lv_dup hx hb dX2_remove_15 rfl ?_
    refine va_get (D := D) (ci := 2) (v := .int Vcount) (C := RX2) (T := TX2) (N := 3) hx hb hts iX2 hown hK hP 0 rfl rfl 2 (by decide) f18 (fun _ h9 => h9) rfl dX2_remove_16 ?_
    refine lv_iconst (v := 1) hx hb dX2_remove_19 (by decide) ?_
    refine lv_isub hx hb dX2_remove_20 ?_
    refine va_put (D := D) (ci := 2) (v := .int (Vcount - 1)) (ty := .int) (C := RX2) (T := TX2) (N := 3) hx hb hts iX2 tyX2 tyX2_ok nmX2 hown hK hP hD hS 0 rfl rfl 2 (by decide) f18 (fun _ h9 => h9) rfl (by decide +kernel) rfl rfl (Nat.le_of_ble_eq_true rfl) dX2_remove_21 (fun H locs hP hD hS => ?_)
    replace hP : va_P D vwCl (wV k aV Vdegrees Vfactors (Vcount - 1)) H := hP
    replace hD : va_D A (wV k aV Vdegrees Vfactors (Vcount - 1)) := hD
    refine lv_aload_n hx hb dX2_remove_24 rfl (lv_at hl 1 rfl) ?_
    refine va_get (D := D) (ci := 2) (v := .ref (aV 1)) (C := RX2) (T := TX2) (N := 3) hx hb hts iX2 hown hK hP 0 rfl rfl 0 (by decide) f9 (fun _ h9 => h9) rfl dX2_remove_25 ?_
    refine lv_iload_n hx hb dX2_remove_28 rfl (lv_at hl 0 rfl) ?_
    refine lv_aload_n hx hb dX2_remove_29 rfl (lv_at hl 1 rfl) ?_
    refine va_get (D := D) (ci := 2) (v := .ref (aV 1)) (C := RX2) (T := TX2) (N := 3) hx hb hts iX2 hown hK hP 0 rfl rfl 0 (by decide) f9 (fun _ h9 => h9) rfl dX2_remove_30 ?_
    refine lv_aload_n hx hb dX2_remove_33 rfl (lv_at hl 1 rfl) ?_
    refine va_get (D := D) (ci := 2) (v := .int (Vcount - 1)) (C := RX2) (T := TX2) (N := 3) hx hb hts iX2 hown hK hP 0 rfl rfl 2 (by decide) f18 (fun _ h9 => h9) rfl dX2_remove_34 ?_
    obtain ⟨hi3, h⟩ := gi_inv h
    refine va_iald hx hb hK hP 1 0 rfl rfl hi3 dX2_remove_37 ?_
    obtain ⟨hi4, h⟩ := gi_inv h
    refine va_iast hx hb hK hP hD hS 1 0 rfl rfl hi4 dX2_remove_38 (fun H locs hP hD hS => ?_)
    replace hP : va_P D vwCl (wV k aV (upd Vdegrees (r1.toNatClampNeg) (Vdegrees (Vcount - 1).toNatClampNeg)) Vfactors (Vcount - 1)) H := hP
    replace hD : va_D A (wV k aV (upd Vdegrees (r1.toNatClampNeg) (Vdegrees (Vcount - 1).toNatClampNeg)) Vfactors (Vcount - 1)) := hD
    refine lv_aload_n hx hb dX2_remove_39 rfl (lv_at hl 1 rfl) ?_
    refine va_get (D := D) (ci := 2) (v := .ref (aV 2)) (C := RX2) (T := TX2) (N := 3) hx hb hts iX2 hown hK hP 0 rfl rfl 1 (by decide) f15 (fun _ h9 => h9) rfl dX2_remove_40 ?_
    refine lv_iload_n hx hb dX2_remove_43 rfl (lv_at hl 0 rfl) ?_
    refine lv_aload_n hx hb dX2_remove_44 rfl (lv_at hl 1 rfl) ?_
    refine va_get (D := D) (ci := 2) (v := .ref (aV 2)) (C := RX2) (T := TX2) (N := 3) hx hb hts iX2 hown hK hP 0 rfl rfl 1 (by decide) f15 (fun _ h9 => h9) rfl dX2_remove_45 ?_
    refine lv_aload_n hx hb dX2_remove_48 rfl (lv_at hl 1 rfl) ?_
    refine va_get (D := D) (ci := 2) (v := .int (Vcount - 1)) (C := RX2) (T := TX2) (N := 3) hx hb hts iX2 hown hK hP 0 rfl rfl 2 (by decide) f18 (fun _ h9 => h9) rfl dX2_remove_49 ?_
    obtain ⟨hi5, h⟩ := gi_inv h
    refine va_iald hx hb hK hP 2 0 rfl rfl hi5 dX2_remove_52 ?_
    obtain ⟨hi6, h⟩ := gi_inv h
    refine va_iast hx hb hK hP hD hS 2 0 rfl rfl hi6 dX2_remove_53 (fun H locs hP hD hS => ?_)
    replace hP : va_P D vwCl (wV k aV (upd Vdegrees (r1.toNatClampNeg) (Vdegrees (Vcount - 1).toNatClampNeg)) (upd Vfactors (r1.toNatClampNeg) (Vfactors (Vcount - 1).toNatClampNeg)) (Vcount - 1)) H := hP
    replace hD : va_D A (wV k aV (upd Vdegrees (r1.toNatClampNeg) (Vdegrees (Vcount - 1).toNatClampNeg)) (upd Vfactors (r1.toNatClampNeg) (Vfactors (Vcount - 1).toNatClampNeg)) (Vcount - 1)) := hD
    have hP9 := hP
    have hD9 := hD
    have hS9 := hS
    subst hQ
    cases h
    exact W.vret hx hb hr (fun t ht hW => ⟨⟨(), rfl, trivial, by rw [ht]; exact hP9, va_K.moved hW.alike hK, hD9⟩, hS9.F ht⟩) hS9.2.2 dX2_remove_54
def LX2_factorUpTo_8 (Vdegrees : Nat → Int32) (Vfactors : Nat → Int32) (Vcount : Int32) (v1 : Int64) (E64 : Int32 → Option (Int32)) : Nat → Int32 → Int32 → Int32 → Option (Int32)
  | 0, _, _, _ => none
  | fuel + 1, v3, v4, v5 => (if Vcount ≤ v5 then E64 v4 else gi v5 12 ((if 0 < (lg_cmp ((Vdegrees v5.toNatClampNeg).toInt64) v1) then LX2_factorUpTo_8 Vdegrees Vfactors Vcount v1 E64 fuel v3 v4 (v5 + 1) else gi v5 12 ((if (Vdegrees v5.toNatClampNeg) ≤ v3 then LX2_factorUpTo_8 Vdegrees Vfactors Vcount v1 E64 fuel v3 v4 (v5 + 1) else gi v5 12 (gi v5 12 (LX2_factorUpTo_8 Vdegrees Vfactors Vcount v1 E64 fuel (Vdegrees v5.toNatClampNeg) (Vfactors v5.toNatClampNeg) (v5 + 1))))))))
def fX2_factorUpTo (v1 : Int64) (Vdegrees : Nat → Int32) (Vfactors : Nat → Int32) (Vcount : Int32) : Option (Int32) := LX2_factorUpTo_8 Vdegrees Vfactors Vcount v1 (fun (v4 : Int32) => some (v4)) 1000 0 ((-1)) 0
abbrev rmX2_factorUpTo : Room := { frames := 0, cells := 0, slots := 0, locals := 0 }
set_option maxHeartbeats 4000000 in
set_option maxRecDepth 100000 in
theorem met_X2_factorUpTo (l : Launch) (D : va_G) (k : Nat → ClassId)  (aV : Nat → Nat) (sz : Nat) (Vdegrees : Nat → Int32) (Vfactors : Nat → Int32) (Vcount : Int32) (v1 : Int64) (r : Int32) (h : fX2_factorUpTo v1 Vdegrees Vfactors Vcount = some r) : Met l yX2_factorUpTo wsX2_factorUpTo rmX2_factorUpTo (va_Pc [.ref (aV 0), .long v1] (PreW D k (wV k aV Vdegrees Vfactors Vcount) sz)) (va_Qi (fun r9 (_ : Unit) => r9 = r) (fun _ t => PostW D k (va_A (wV k aV Vdegrees Vfactors Vcount) sz) (wV k aV Vdegrees Vfactors Vcount) t) (va_A (wV k aV Vdegrees Vfactors Vcount) sz)) 0 0 (va_A (wV k aV Vdegrees Vfactors Vcount) sz) := by
  refine Met.ofW (cc := cX2_factorUpTo) (maxL := 6) (ret := (some .int)) (by decide) rfl ?_
  intro p e s m args below meth c s₁ B hml hv
  obtain ⟨hav, hsz, hP, hK, hD0⟩ := hv
  have hx := B.exec
  have hb := B.bytes
  have hr := B.returns
  have hts := atoms_spec (ws := wsX2_factorUpTo) B.pre
  have hown : s.vm.findClass RX2 = some m.cls := findClass_of_methodNamed B.named
  have hlocks := B.notSynchronized
  subst hsz
  have hD := hD0.self (sz := s.heap.size)
  clear hD0
  generalize hAe : va_A (wV k aV Vdegrees Vfactors Vcount) s.heap.size = A at hD ⊢
  have hA : ∀ q : Nat, s.heap.size ≤ q → A q := fun q h => by rw [← hAe]; exact Or.inr h
  have hS : va_S A s.heap s.heap [] := va_S.rf
  have hl := lv_entry ([.ref (aV 0), .long v1]) (n := 6) (Nat.le_of_ble_eq_true rfl)
  rw [show entryFrame m args 6 = entryFrame m ([.ref (aV 0), .long v1] : List Value).toArray 6 from by rw [hav], lg_entry_eq]
  generalize (lg_sl ([.ref (aV 0), .long v1]) ++ List.replicate (6 - (lg_sl ([.ref (aV 0), .long v1])).length) Slot.unset).toArray = ls at hl ⊢
  replace hl : lv_has ls 6 [(0, .ref (aV 0)), (1, .long v1)] := hl
  have f9 := hts (.fieldLink RX2 9 "UncertainBook$Coverage" "degrees" "[I") (by decide +kernel)
  have f15 := hts (.fieldLink RX2 15 "UncertainBook$Coverage" "factors" "[I") (by decide +kernel)
  have f18 := hts (.fieldLink RX2 18 "UncertainBook$Coverage" "count" "I") (by decide +kernel)
  have iX2 : ∀ w ∈ u_ws RX2 TX2 3, w ∈ wsX2_factorUpTo := by decide +kernel
  refine w_q (fun Q hQ => ?_)
  unfold fX2_factorUpTo at h
  show W p l e rmX2_factorUpTo s m args below meth c s.heap [] 0 0 Q (F0 m 0 ls [])
  have LH_8 : ∀ (E64 : Int32 → Option (Int32)) (hE64 : ∀ (v4 : Int32), E64 v4 = some r → ∀ (H : Heap) (locs : List Loc) (ls : Array Slot), va_P D vwCl (wV k aV Vdegrees Vfactors Vcount) H → va_D A (wV k aV Vdegrees Vfactors Vcount) → va_S A s.heap H locs → lv_has ls 6 [(4, .int v4)] → W p l e rmX2_factorUpTo s m args below meth c H locs 0 0 Q (F0 m 64 ls [])) (n : Nat) (v3 : Int32) (v4 : Int32) (v5 : Int32), LX2_factorUpTo_8 Vdegrees Vfactors Vcount v1 E64 n v3 v4 v5 = some r → ∀ (H : Heap) (locs : List Loc) (ls : Array Slot), va_P D vwCl (wV k aV Vdegrees Vfactors Vcount) H → va_D A (wV k aV Vdegrees Vfactors Vcount) → va_S A s.heap H locs → lv_has ls 6 [(0, .ref (aV 0)), (1, .long v1), (3, .int v3), (4, .int v4), (5, .int v5)] → W p l e rmX2_factorUpTo s m args below meth c H locs 0 0 Q (F0 m 8 ls []) := by
    intro E64 hE64 n
    induction n with
    | zero => intro v3 v4 v5 h; simp [LX2_factorUpTo_8] at h
    | succ n ih =>
    intro v3 v4 v5 h H locs ls hP hD hS hl
    rw [LX2_factorUpTo_8] at h
    refine lv_iload hx hb dX2_factorUpTo_8 (lv_at hl 4 rfl) ?_
    refine lv_aload_n hx hb dX2_factorUpTo_10 rfl (lv_at hl 0 rfl) ?_
    refine va_get (D := D) (ci := 2) (v := .int Vcount) (C := RX2) (T := TX2) (N := 3) hx hb hts iX2 hown hK hP 0 rfl rfl 2 (by decide) f18 (fun _ h9 => h9) rfl dX2_factorUpTo_11 ?_
    refine lv_icmp_ge (tgt := 64) hx hb dX2_factorUpTo_14 (by decide) (fun c1 => ?_) (fun c1 => ?_)
    · replace h := sf_t c1 h
      exact hE64 _ h _ _ _ hP hD hS (lv_sub hl [3] rfl)
    · replace h := sf_f c1 h
      refine lv_aload_n hx hb dX2_factorUpTo_17 rfl (lv_at hl 0 rfl) ?_
      refine va_get (D := D) (ci := 2) (v := .ref (aV 1)) (C := RX2) (T := TX2) (N := 3) hx hb hts iX2 hown hK hP 0 rfl rfl 0 (by decide) f9 (fun _ h9 => h9) rfl dX2_factorUpTo_18 ?_
      refine lv_iload hx hb dX2_factorUpTo_21 (lv_at hl 4 rfl) ?_
      obtain ⟨hi2, h⟩ := gi_inv h
      refine va_iald hx hb hK hP 1 0 rfl rfl hi2 dX2_factorUpTo_23 ?_
      refine lv_i2l hx hb dX2_factorUpTo_24 rfl ?_
      refine lv_lload_n hx hb dX2_factorUpTo_25 rfl (lv_at hl 1 rfl) ?_
      refine W.lcmp hx hb dX2_factorUpTo_26 ?_
      refine lv_if_gt (tgt := 58) hx hb dX2_factorUpTo_27 (by decide) (fun c3 => ?_) (fun c3 => ?_)
      · replace h := sf_t c3 h
        refine lv_iinc (v := v5 + 1) (lv' := [(5, .int (v5 + 1)), (0, .ref (aV 0)), (1, .long v1), (3, .int v3), (4, .int v4)]) hx hb dX2_factorUpTo_58 hl (k := 4) rfl rfl (by decide) rfl (fun ls hl => ?_)
        refine lv_goto (tgt := 8) hx hb dX2_factorUpTo_61 (by decide) ?_
        exact ih _ _ _ h _ _ _ hP hD hS (lv_sub hl [1, 2, 3, 4, 0] rfl)
      · replace h := sf_f c3 h
        refine lv_aload_n hx hb dX2_factorUpTo_30 rfl (lv_at hl 0 rfl) ?_
        refine va_get (D := D) (ci := 2) (v := .ref (aV 1)) (C := RX2) (T := TX2) (N := 3) hx hb hts iX2 hown hK hP 0 rfl rfl 0 (by decide) f9 (fun _ h9 => h9) rfl dX2_factorUpTo_31 ?_
        refine lv_iload hx hb dX2_factorUpTo_34 (lv_at hl 4 rfl) ?_
        obtain ⟨hi4, h⟩ := gi_inv h
        refine va_iald hx hb hK hP 1 0 rfl rfl hi4 dX2_factorUpTo_36 ?_
        refine lv_iload_n hx hb dX2_factorUpTo_37 rfl (lv_at hl 2 rfl) ?_
        refine lv_icmp_le (tgt := 58) hx hb dX2_factorUpTo_38 (by decide) (fun c5 => ?_) (fun c5 => ?_)
        · replace h := sf_t c5 h
          refine lv_iinc (v := v5 + 1) (lv' := [(5, .int (v5 + 1)), (0, .ref (aV 0)), (1, .long v1), (3, .int v3), (4, .int v4)]) hx hb dX2_factorUpTo_58 hl (k := 4) rfl rfl (by decide) rfl (fun ls hl => ?_)
          refine lv_goto (tgt := 8) hx hb dX2_factorUpTo_61 (by decide) ?_
          exact ih _ _ _ h _ _ _ hP hD hS (lv_sub hl [1, 2, 3, 4, 0] rfl)
        · replace h := sf_f c5 h
          refine lv_aload_n hx hb dX2_factorUpTo_41 rfl (lv_at hl 0 rfl) ?_
          refine va_get (D := D) (ci := 2) (v := .ref (aV 1)) (C := RX2) (T := TX2) (N := 3) hx hb hts iX2 hown hK hP 0 rfl rfl 0 (by decide) f9 (fun _ h9 => h9) rfl dX2_factorUpTo_42 ?_
          refine lv_iload hx hb dX2_factorUpTo_45 (lv_at hl 4 rfl) ?_
          obtain ⟨hi6, h⟩ := gi_inv h
          refine va_iald hx hb hK hP 1 0 rfl rfl hi6 dX2_factorUpTo_47 ?_
          refine lv_istore_n (lv' := [(3, .int (Vdegrees v5.toNatClampNeg)), (0, .ref (aV 0)), (1, .long v1), (4, .int v4), (5, .int v5)]) hx hb dX2_factorUpTo_48 rfl hl (by decide) rfl (fun ls hl => ?_)
          refine lv_aload_n hx hb dX2_factorUpTo_49 rfl (lv_at hl 1 rfl) ?_
          refine va_get (D := D) (ci := 2) (v := .ref (aV 2)) (C := RX2) (T := TX2) (N := 3) hx hb hts iX2 hown hK hP 0 rfl rfl 1 (by decide) f15 (fun _ h9 => h9) rfl dX2_factorUpTo_50 ?_
          refine lv_iload hx hb dX2_factorUpTo_53 (lv_at hl 4 rfl) ?_
          obtain ⟨hi7, h⟩ := gi_inv h
          refine va_iald hx hb hK hP 2 0 rfl rfl hi7 dX2_factorUpTo_55 ?_
          refine lv_istore (lv' := [(4, .int (Vfactors v5.toNatClampNeg)), (3, .int (Vdegrees v5.toNatClampNeg)), (0, .ref (aV 0)), (1, .long v1), (5, .int v5)]) hx hb dX2_factorUpTo_56 hl (by decide) rfl (fun ls hl => ?_)
          refine lv_iinc (v := v5 + 1) (lv' := [(5, .int (v5 + 1)), (4, .int (Vfactors v5.toNatClampNeg)), (3, .int (Vdegrees v5.toNatClampNeg)), (0, .ref (aV 0)), (1, .long v1)]) hx hb dX2_factorUpTo_58 hl (k := 4) rfl rfl (by decide) rfl (fun ls hl => ?_)
          refine lv_goto (tgt := 8) hx hb dX2_factorUpTo_61 (by decide) ?_
          exact ih _ _ _ h _ _ _ hP hD hS (lv_sub hl [3, 4, 2, 1, 0] rfl)
  suffices main : ∀ (H : Heap) (locs : List Loc) (ls : Array Slot), va_P D vwCl (wV k aV Vdegrees Vfactors Vcount) H → va_D A (wV k aV Vdegrees Vfactors Vcount) → va_S A s.heap H locs → lv_has ls 6 [(0, .ref (aV 0)), (1, .long v1)] → W p l e rmX2_factorUpTo s m args below meth c H locs 0 0 Q (F0 m 0 ls []) from main _ _ _ hP hD hS hl
  clear hP hD hS hl ls hAe
  intro H locs ls hP hD hS hl
  refine lv_iconst (v := 0) hx hb dX2_factorUpTo_0 (by decide) ?_
  refine lv_istore_n (lv' := [(3, .int 0), (0, .ref (aV 0)), (1, .long v1)]) hx hb dX2_factorUpTo_1 rfl hl (by decide) rfl (fun ls hl => ?_)
  refine lv_iconst (v := -1) hx hb dX2_factorUpTo_2 (by decide) ?_
  refine lv_istore (lv' := [(4, .int ((-1))), (3, .int 0), (0, .ref (aV 0)), (1, .long v1)]) hx hb dX2_factorUpTo_3 hl (by decide) rfl (fun ls hl => ?_)
  refine lv_iconst (v := 0) hx hb dX2_factorUpTo_5 (by decide) ?_
  refine lv_istore (lv' := [(5, .int 0), (4, .int ((-1))), (3, .int 0), (0, .ref (aV 0)), (1, .long v1)]) hx hb dX2_factorUpTo_6 hl (by decide) rfl (fun ls hl => ?_)
  refine LH_8 _ (fun v4 h H locs ls hP hD hS hl => ?_) _ _ _ _ h _ _ _ hP hD hS (lv_sub hl [3, 4, 2, 1, 0] rfl)
  · skip
    refine lv_iload hx hb dX2_factorUpTo_64 (lv_at hl 0 rfl) ?_
    have hP9 := hP
    have hD9 := hD
    have hS9 := hS
    subst hQ
    cases h
    exact W.iret hx hb hr (fun t ht hW => ⟨⟨_, (), rfl, rfl, by rw [ht]; exact hP9, va_K.moved hW.alike hK, hD9⟩, hS9.F ht⟩) hS9.2.2 dX2_factorUpTo_66
def fX1_modulo (v1 : Int32) (Cx : Int32) : Option (Int32 × Int32) := (if v1 ≤ 0 then some (0, jrem ((75 * Cx) + 74) 65537) else gz v1 (some (jrem (jrem ((75 * Cx) + 74) 65537) v1, jrem ((75 * Cx) + 74) 65537)))
abbrev rmX1_modulo : Room := { frames := 0, cells := 0, slots := 0, locals := 0 }
set_option maxHeartbeats 4000000 in
set_option maxRecDepth 100000 in
theorem met_X1_modulo (l : Launch) (D : va_G) (k : Nat → ClassId)  (aC : Nat → Nat) (sz : Nat) (Cx : Int32) (v1 : Int32) (r : Int32) (RCx : Int32) (h : fX1_modulo v1 Cx = some (r, RCx)) : Met l yX1_modulo wsX1_modulo rmX1_modulo (va_Pc [.ref (aC 0), .int v1] (PreW D k (wC k aC Cx) sz)) (va_Qi (fun r9 (_ : Unit) => r9 = r) (fun _ t => PostW D k (va_A (wC k aC Cx) sz) (wC k aC RCx) t) (va_A (wC k aC Cx) sz)) 0 0 (va_A (wC k aC Cx) sz) := by
  refine Met.ofW (cc := cX1_modulo) (maxL := 2) (ret := (some .int)) (by decide) rfl ?_
  intro p e s m args below meth c s₁ B hml hv
  obtain ⟨hav, hsz, hP, hK, hD0⟩ := hv
  have hx := B.exec
  have hb := B.bytes
  have hr := B.returns
  have hts := atoms_spec (ws := wsX1_modulo) B.pre
  have hown : s.vm.findClass RX1 = some m.cls := findClass_of_methodNamed B.named
  have hlocks := B.notSynchronized
  subst hsz
  have hD := hD0.self (sz := s.heap.size)
  clear hD0
  generalize hAe : va_A (wC k aC Cx) s.heap.size = A at hD ⊢
  have hA : ∀ q : Nat, s.heap.size ≤ q → A q := fun q h => by rw [← hAe]; exact Or.inr h
  have hS : va_S A s.heap s.heap [] := va_S.rf
  have hl := lv_entry ([.ref (aC 0), .int v1]) (n := 2) (Nat.le_of_ble_eq_true rfl)
  rw [show entryFrame m args 2 = entryFrame m ([.ref (aC 0), .int v1] : List Value).toArray 2 from by rw [hav], lg_entry_eq]
  generalize (lg_sl ([.ref (aC 0), .int v1]) ++ List.replicate (2 - (lg_sl ([.ref (aC 0), .int v1])).length) Slot.unset).toArray = ls at hl ⊢
  replace hl : lv_has ls 2 [(0, .ref (aC 0)), (1, .int v1)] := hl
  have f7 := hts (.fieldLink RX1 7 "UncertainBook$Chance" "x" "I") (by decide +kernel)
  have kc13 := hts (.constant RX1 13 (65537)) (by decide +kernel)
  have iX1 : ∀ w ∈ u_ws RX1 TX1 1, w ∈ wsX1_modulo := by decide +kernel
  refine w_q (fun Q hQ => ?_)
  unfold fX1_modulo at h
  show W p l e rmX1_modulo s m args below meth c s.heap [] 0 0 Q (F0 m 0 ls [])
  suffices main : ∀ (H : Heap) (locs : List Loc) (ls : Array Slot), va_P D vwCl (wC k aC Cx) H → va_D A (wC k aC Cx) → va_S A s.heap H locs → lv_has ls 2 [(0, .ref (aC 0)), (1, .int v1)] → W p l e rmX1_modulo s m args below meth c H locs 0 0 Q (F0 m 0 ls []) from main _ _ _ hP hD hS hl
  clear hP hD hS hl ls hAe
  intro H locs ls hP hD hS hl
  refine lv_aload_n hx hb dX1_modulo_0 rfl (lv_at hl 0 rfl) ?_
  refine lv_bipush (v := 75) hx hb dX1_modulo_1 (by decide) ?_
  refine lv_aload_n hx hb dX1_modulo_3 rfl (lv_at hl 0 rfl) ?_
  refine va_get (D := D) (ci := 1) (v := .int Cx) (C := RX1) (T := TX1) (N := 1) hx hb hts iX1 hown hK hP 0 rfl rfl 0 (by decide) f7 (fun _ h9 => h9) rfl dX1_modulo_4 ?_
  refine lv_imul hx hb dX1_modulo_7 ?_
  refine lv_bipush (v := 74) hx hb dX1_modulo_8 (by decide) ?_
  refine lv_iadd hx hb dX1_modulo_10 ?_
  refine lv_ldc (v := 65537) hx hb hown kc13 dX1_modulo_11 ?_
  refine lv_irem hx hb dX1_modulo_13 (by decide) ?_
  refine va_put (D := D) (ci := 1) (v := .int (jrem ((75 * Cx) + 74) 65537)) (ty := .int) (C := RX1) (T := TX1) (N := 1) hx hb hts iX1 tyX1 tyX1_ok nmX1 hown hK hP hD hS 0 rfl rfl 0 (by decide) f7 (fun _ h9 => h9) rfl (by decide +kernel) rfl rfl (Nat.le_of_ble_eq_true rfl) dX1_modulo_14 (fun H locs hP hD hS => ?_)
  replace hP : va_P D vwCl (wC k aC (jrem ((75 * Cx) + 74) 65537)) H := hP
  replace hD : va_D A (wC k aC (jrem ((75 * Cx) + 74) 65537)) := hD
  refine lv_iload_n hx hb dX1_modulo_17 rfl (lv_at hl 1 rfl) ?_
  refine lv_if_le (tgt := 30) hx hb dX1_modulo_18 (by decide) (fun c1 => ?_) (fun c1 => ?_)
  · replace h := sf_t c1 h
    refine lv_iconst (v := 0) hx hb dX1_modulo_30 (by decide) ?_
    have hP9 := hP
    have hD9 := hD
    have hS9 := hS
    subst hQ
    cases h
    exact W.iret hx hb hr (fun t ht hW => ⟨⟨_, (), rfl, rfl, by rw [ht]; exact hP9, va_K.moved hW.alike hK, hD9⟩, hS9.F ht⟩) hS9.2.2 dX1_modulo_31
  · replace h := sf_f c1 h
    refine lv_aload_n hx hb dX1_modulo_21 rfl (lv_at hl 0 rfl) ?_
    refine va_get (D := D) (ci := 1) (v := .int (jrem ((75 * Cx) + 74) 65537)) (C := RX1) (T := TX1) (N := 1) hx hb hts iX1 hown hK hP 0 rfl rfl 0 (by decide) f7 (fun _ h9 => h9) rfl dX1_modulo_22 ?_
    refine lv_iload_n hx hb dX1_modulo_25 rfl (lv_at hl 1 rfl) ?_
    obtain ⟨hz2, h⟩ := gz_inv h
    refine lv_irem hx hb dX1_modulo_26 hz2 ?_
    refine lv_goto (tgt := 31) hx hb dX1_modulo_27 (by decide) ?_
    have hP9 := hP
    have hD9 := hD
    have hS9 := hS
    subst hQ
    cases h
    exact W.iret hx hb hr (fun t ht hW => ⟨⟨_, (), rfl, rfl, by rw [ht]; exact hP9, va_K.moved hW.alike hK, hD9⟩, hS9.F ht⟩) hS9.2.2 dX1_modulo_31
def fX4_shapeVariance (v0 : Int32) (v1 : Int32) : Option (Int32) := (if v0 = 1 then some (v1 / 3) else if v0 = 2 then some (v1 / 6) else if v0 = 3 then some (v1 / 2) else some (0))
abbrev rmX4_shapeVariance : Room := { frames := 0, cells := 0, slots := 0, locals := 0 }
set_option maxHeartbeats 4000000 in
set_option maxRecDepth 100000 in
theorem met_X4_shapeVariance (l : Launch) (D : va_G) (k : Nat → ClassId)   (sz : Nat)  (v0 : Int32) (v1 : Int32) (r : Int32) (h : fX4_shapeVariance v0 v1 = some r) : Met l yX4_shapeVariance wsX4_shapeVariance rmX4_shapeVariance (va_Pc [.int v0, .int v1] (PreW D k ([] : va_W) sz)) (va_Qi (fun r9 (_ : Unit) => r9 = r) (fun _ t => PostW D k (va_A ([] : va_W) sz) ([] : va_W) t) (va_A ([] : va_W) sz)) 0 0 (va_A ([] : va_W) sz) := by
  refine Met.ofW (cc := cX4_shapeVariance) (maxL := 2) (ret := (some .int)) (by decide) rfl ?_
  intro p e s m args below meth c s₁ B hml hv
  obtain ⟨hav, hsz, hP, hK, hD0⟩ := hv
  have hx := B.exec
  have hb := B.bytes
  have hr := B.returns
  have hts := atoms_spec (ws := wsX4_shapeVariance) B.pre
  have hown : s.vm.findClass RX4 = some m.cls := findClass_of_methodNamed B.named
  have hlocks := B.notSynchronized
  subst hsz
  have hD := hD0.self (sz := s.heap.size)
  clear hD0
  generalize hAe : va_A ([] : va_W) s.heap.size = A at hD ⊢
  have hA : ∀ q : Nat, s.heap.size ≤ q → A q := fun q h => by rw [← hAe]; exact Or.inr h
  have hS : va_S A s.heap s.heap [] := va_S.rf
  have hl := lv_entry ([.int v0, .int v1]) (n := 2) (Nat.le_of_ble_eq_true rfl)
  rw [show entryFrame m args 2 = entryFrame m ([.int v0, .int v1] : List Value).toArray 2 from by rw [hav], lg_entry_eq]
  generalize (lg_sl ([.int v0, .int v1]) ++ List.replicate (2 - (lg_sl ([.int v0, .int v1])).length) Slot.unset).toArray = ls at hl ⊢
  replace hl : lv_has ls 2 [(0, .int v0), (1, .int v1)] := hl
  refine w_q (fun Q hQ => ?_)
  unfold fX4_shapeVariance at h
  show W p l e rmX4_shapeVariance s m args below meth c s.heap [] 0 0 Q (F0 m 0 ls [])
  suffices main : ∀ (H : Heap) (locs : List Loc) (ls : Array Slot), va_P D vwCl ([] : va_W) H → va_D A ([] : va_W) → va_S A s.heap H locs → lv_has ls 2 [(0, .int v0), (1, .int v1)] → W p l e rmX4_shapeVariance s m args below meth c H locs 0 0 Q (F0 m 0 ls []) from main _ _ _ hP hD hS hl
  clear hP hD hS hl ls hAe
  intro H locs ls hP hD hS hl
  refine lv_iload_n hx hb dX4_shapeVariance_0 rfl (lv_at hl 0 rfl) ?_
  rcases Decidable.em (v0 = 1) with c1 | c1
  · replace h := sf_t c1 h
    refine lv_tableIn (off := 27) (tgt := 28) hx hb dX4_shapeVariance_1 (by rw [c1]; decide) (by rw [c1]; decide) (by rw [c1]; rfl) (by decide) ?_
    refine lv_iload_n hx hb dX4_shapeVariance_28 rfl (lv_at hl 1 rfl) ?_
    refine lv_iconst (v := 3) hx hb dX4_shapeVariance_29 (by decide) ?_
    refine lv_idiv hx hb dX4_shapeVariance_30 (by decide) ?_
    have hP9 := hP
    have hD9 := hD
    have hS9 := hS
    subst hQ
    cases h
    exact W.iret hx hb hr (fun t ht hW => ⟨⟨_, (), rfl, rfl, by rw [ht]; exact hP9, va_K.moved hW.alike hK, hD9⟩, hS9.F ht⟩) hS9.2.2 dX4_shapeVariance_31
  replace h := sf_f c1 h
  rcases Decidable.em (v0 = 2) with c2 | c2
  · replace h := sf_t c2 h
    refine lv_tableIn (off := 31) (tgt := 32) hx hb dX4_shapeVariance_1 (by rw [c2]; decide) (by rw [c2]; decide) (by rw [c2]; rfl) (by decide) ?_
    refine lv_iload_n hx hb dX4_shapeVariance_32 rfl (lv_at hl 1 rfl) ?_
    refine lv_bipush (v := 6) hx hb dX4_shapeVariance_33 (by decide) ?_
    refine lv_idiv hx hb dX4_shapeVariance_35 (by decide) ?_
    have hP9 := hP
    have hD9 := hD
    have hS9 := hS
    subst hQ
    cases h
    exact W.iret hx hb hr (fun t ht hW => ⟨⟨_, (), rfl, rfl, by rw [ht]; exact hP9, va_K.moved hW.alike hK, hD9⟩, hS9.F ht⟩) hS9.2.2 dX4_shapeVariance_36
  replace h := sf_f c2 h
  rcases Decidable.em (v0 = 3) with c3 | c3
  · replace h := sf_t c3 h
    refine lv_tableIn (off := 36) (tgt := 37) hx hb dX4_shapeVariance_1 (by rw [c3]; decide) (by rw [c3]; decide) (by rw [c3]; rfl) (by decide) ?_
    refine lv_iload_n hx hb dX4_shapeVariance_37 rfl (lv_at hl 1 rfl) ?_
    refine lv_iconst (v := 2) hx hb dX4_shapeVariance_38 (by decide) ?_
    refine lv_idiv hx hb dX4_shapeVariance_39 (by decide) ?_
    have hP9 := hP
    have hD9 := hD
    have hS9 := hS
    subst hQ
    cases h
    exact W.iret hx hb hr (fun t ht hW => ⟨⟨_, (), rfl, rfl, by rw [ht]; exact hP9, va_K.moved hW.alike hK, hD9⟩, hS9.F ht⟩) hS9.2.2 dX4_shapeVariance_40
  replace h := sf_f c3 h
  refine lv_tableOut (tgt := 41) hx hb dX4_shapeVariance_1 (by have z0 := lv_neT (a := 1) c1 rfl; have z1 := lv_neT (a := 2) c2 rfl; have z2 := lv_neT (a := 3) c3 rfl; omega) (by decide) ?_
  refine lv_iconst (v := 0) hx hb dX4_shapeVariance_41 (by decide) ?_
  have hP9 := hP
  have hD9 := hD
  have hS9 := hS
  subst hQ
  cases h
  exact W.iret hx hb hr (fun t ht hW => ⟨⟨_, (), rfl, rfl, by rw [ht]; exact hP9, va_K.moved hW.alike hK, hD9⟩, hS9.F ht⟩) hS9.2.2 dX4_shapeVariance_42
def fX4_tellShape (v1 : Int32) (v2 : Int32) (v3 : Int32) (v4 : Int32) (Iestimates : Nat → Int32) (Ivariances : Nat → Int32) (Isorts : Nat → Int32) (Iwidths : Nat → Int32) (Icounts : Nat → Int32) : Option (Int32 × (Nat → Int32) × (Nat → Int32) × (Nat → Int32) × (Nat → Int32) × (Nat → Int32)) := gi v1 6 (gi v1 6 (gi v1 6 (gi v1 6 (bnd1 (fX4_shapeVariance v3 (v4 * v4)) (fun r5 => gi v1 6 (gi v1 6 (some ((upd Ivariances (v1.toNatClampNeg) r5) v1.toNatClampNeg, upd Iestimates (v1.toNatClampNeg) v2, upd Ivariances (v1.toNatClampNeg) r5, upd Isorts (v1.toNatClampNeg) v3, upd Iwidths (v1.toNatClampNeg) v4, upd Icounts (v1.toNatClampNeg) 0))))))))
abbrev rmX4_tellShape : Room := { frames := 1, cells := 0, slots := 0, locals := 21 }
set_option maxHeartbeats 4000000 in
set_option maxRecDepth 100000 in
theorem met_X4_tellShape (l : Launch) (D : va_G) (k : Nat → ClassId)  (aI : Nat → Nat) (sz : Nat) (Iestimates : Nat → Int32) (Ivariances : Nat → Int32) (Isorts : Nat → Int32) (Iwidths : Nat → Int32) (Icounts : Nat → Int32) (Ireadings : Nat → Nat → Int32) (Ifirsts : Nat → Int32) (Iseconds : Nat → Int32) (Icovariances : Nat → Nat → Int32) (v1 : Int32) (v2 : Int32) (v3 : Int32) (v4 : Int32) (r : Int32) (RIestimates : Nat → Int32) (RIvariances : Nat → Int32) (RIsorts : Nat → Int32) (RIwidths : Nat → Int32) (RIcounts : Nat → Int32) (h : fX4_tellShape v1 v2 v3 v4 Iestimates Ivariances Isorts Iwidths Icounts = some (r, RIestimates, RIvariances, RIsorts, RIwidths, RIcounts)) : Met l yX4_tellShape wsX4_tellShape rmX4_tellShape (va_Pc [.ref (aI 0), .int v1, .int v2, .int v3, .int v4] (PreW D k (wI k aI Iestimates Ivariances Isorts Iwidths Icounts Ireadings Ifirsts Iseconds Icovariances) sz)) (va_Qi (fun r9 (_ : Unit) => r9 = r) (fun _ t => PostW D k (va_A (wI k aI Iestimates Ivariances Isorts Iwidths Icounts Ireadings Ifirsts Iseconds Icovariances) sz) (wI k aI RIestimates RIvariances RIsorts RIwidths RIcounts Ireadings Ifirsts Iseconds Icovariances) t) (va_A (wI k aI Iestimates Ivariances Isorts Iwidths Icounts Ireadings Ifirsts Iseconds Icovariances) sz)) 0 0 (va_A (wI k aI Iestimates Ivariances Isorts Iwidths Icounts Ireadings Ifirsts Iseconds Icovariances) sz) := by
  refine Met.ofW (cc := cX4_tellShape) (maxL := 5) (ret := (some .int)) (by decide) rfl ?_
  intro p e s m args below meth c s₁ B hml hv
  obtain ⟨hav, hsz, hP, hK, hD0⟩ := hv
  have hx := B.exec
  have hb := B.bytes
  have hr := B.returns
  have hts := atoms_spec (ws := wsX4_tellShape) B.pre
  have hown : s.vm.findClass RX4 = some m.cls := findClass_of_methodNamed B.named
  have hlocks := B.notSynchronized
  subst hsz
  have hD := hD0.self (sz := s.heap.size)
  clear hD0
  generalize hAe : va_A (wI k aI Iestimates Ivariances Isorts Iwidths Icounts Ireadings Ifirsts Iseconds Icovariances) s.heap.size = A at hD ⊢
  have hA : ∀ q : Nat, s.heap.size ≤ q → A q := fun q h => by rw [← hAe]; exact Or.inr h
  have hS : va_S A s.heap s.heap [] := va_S.rf
  have hl := lv_entry ([.ref (aI 0), .int v1, .int v2, .int v3, .int v4]) (n := 5) (Nat.le_of_ble_eq_true rfl)
  rw [show entryFrame m args 5 = entryFrame m ([.ref (aI 0), .int v1, .int v2, .int v3, .int v4] : List Value).toArray 5 from by rw [hav], lg_entry_eq]
  generalize (lg_sl ([.ref (aI 0), .int v1, .int v2, .int v3, .int v4]) ++ List.replicate (5 - (lg_sl ([.ref (aI 0), .int v1, .int v2, .int v3, .int v4])).length) Slot.unset).toArray = ls at hl ⊢
  replace hl : lv_has ls 5 [(0, .ref (aI 0)), (1, .int v1), (2, .int v2), (3, .int v3), (4, .int v4)] := hl
  have f9 := hts (.fieldLink RX4 9 "UncertainBook$Inputs" "estimates" "[I") (by decide +kernel)
  have f15 := hts (.fieldLink RX4 15 "UncertainBook$Inputs" "variances" "[I") (by decide +kernel)
  have f18 := hts (.fieldLink RX4 18 "UncertainBook$Inputs" "sorts" "[I") (by decide +kernel)
  have f21 := hts (.fieldLink RX4 21 "UncertainBook$Inputs" "widths" "[I") (by decide +kernel)
  have f24 := hts (.fieldLink RX4 24 "UncertainBook$Inputs" "counts" "[I") (by decide +kernel)
  have iX4 : ∀ w ∈ u_ws RX4 TX4 9, w ∈ wsX4_tellShape := by decide +kernel
  refine w_q (fun Q hQ => ?_)
  unfold fX4_tellShape at h
  show W p l e rmX4_tellShape s m args below meth c s.heap [] 0 0 Q (F0 m 0 ls [])
  suffices main : ∀ (H : Heap) (locs : List Loc) (ls : Array Slot), va_P D vwCl (wI k aI Iestimates Ivariances Isorts Iwidths Icounts Ireadings Ifirsts Iseconds Icovariances) H → va_D A (wI k aI Iestimates Ivariances Isorts Iwidths Icounts Ireadings Ifirsts Iseconds Icovariances) → va_S A s.heap H locs → lv_has ls 5 [(0, .ref (aI 0)), (1, .int v1), (2, .int v2), (3, .int v3), (4, .int v4)] → W p l e rmX4_tellShape s m args below meth c H locs 0 0 Q (F0 m 0 ls []) from main _ _ _ hP hD hS hl
  clear hP hD hS hl ls hAe
  intro H locs ls hP hD hS hl
  refine lv_aload_n hx hb dX4_tellShape_0 rfl (lv_at hl 0 rfl) ?_
  refine va_get (D := D) (ci := 4) (v := .ref (aI 1)) (C := RX4) (T := TX4) (N := 9) hx hb hts iX4 hown hK hP 0 rfl rfl 0 (by decide) f9 (fun _ h9 => h9) rfl dX4_tellShape_1 ?_
  refine lv_iload_n hx hb dX4_tellShape_4 rfl (lv_at hl 1 rfl) ?_
  refine lv_iload_n hx hb dX4_tellShape_5 rfl (lv_at hl 2 rfl) ?_
  obtain ⟨hi1, h⟩ := gi_inv h
  refine va_iast hx hb hK hP hD hS 1 0 rfl rfl hi1 dX4_tellShape_6 (fun H locs hP hD hS => ?_)
  replace hP : va_P D vwCl (wI k aI (upd Iestimates (v1.toNatClampNeg) v2) Ivariances Isorts Iwidths Icounts Ireadings Ifirsts Iseconds Icovariances) H := hP
  replace hD : va_D A (wI k aI (upd Iestimates (v1.toNatClampNeg) v2) Ivariances Isorts Iwidths Icounts Ireadings Ifirsts Iseconds Icovariances) := hD
  refine lv_aload_n hx hb dX4_tellShape_7 rfl (lv_at hl 0 rfl) ?_
  refine va_get (D := D) (ci := 4) (v := .ref (aI 3)) (C := RX4) (T := TX4) (N := 9) hx hb hts iX4 hown hK hP 0 rfl rfl 2 (by decide) f18 (fun _ h9 => h9) rfl dX4_tellShape_8 ?_
  refine lv_iload_n hx hb dX4_tellShape_11 rfl (lv_at hl 1 rfl) ?_
  refine lv_iload_n hx hb dX4_tellShape_12 rfl (lv_at hl 3 rfl) ?_
  obtain ⟨hi2, h⟩ := gi_inv h
  refine va_iast hx hb hK hP hD hS 3 0 rfl rfl hi2 dX4_tellShape_13 (fun H locs hP hD hS => ?_)
  replace hP : va_P D vwCl (wI k aI (upd Iestimates (v1.toNatClampNeg) v2) Ivariances (upd Isorts (v1.toNatClampNeg) v3) Iwidths Icounts Ireadings Ifirsts Iseconds Icovariances) H := hP
  replace hD : va_D A (wI k aI (upd Iestimates (v1.toNatClampNeg) v2) Ivariances (upd Isorts (v1.toNatClampNeg) v3) Iwidths Icounts Ireadings Ifirsts Iseconds Icovariances) := hD
  refine lv_aload_n hx hb dX4_tellShape_14 rfl (lv_at hl 0 rfl) ?_
  refine va_get (D := D) (ci := 4) (v := .ref (aI 4)) (C := RX4) (T := TX4) (N := 9) hx hb hts iX4 hown hK hP 0 rfl rfl 3 (by decide) f21 (fun _ h9 => h9) rfl dX4_tellShape_15 ?_
  refine lv_iload_n hx hb dX4_tellShape_18 rfl (lv_at hl 1 rfl) ?_
  refine lv_iload hx hb dX4_tellShape_19 (lv_at hl 4 rfl) ?_
  obtain ⟨hi3, h⟩ := gi_inv h
  refine va_iast hx hb hK hP hD hS 4 0 rfl rfl hi3 dX4_tellShape_21 (fun H locs hP hD hS => ?_)
  replace hP : va_P D vwCl (wI k aI (upd Iestimates (v1.toNatClampNeg) v2) Ivariances (upd Isorts (v1.toNatClampNeg) v3) (upd Iwidths (v1.toNatClampNeg) v4) Icounts Ireadings Ifirsts Iseconds Icovariances) H := hP
  replace hD : va_D A (wI k aI (upd Iestimates (v1.toNatClampNeg) v2) Ivariances (upd Isorts (v1.toNatClampNeg) v3) (upd Iwidths (v1.toNatClampNeg) v4) Icounts Ireadings Ifirsts Iseconds Icovariances) := hD
  refine lv_aload_n hx hb dX4_tellShape_22 rfl (lv_at hl 0 rfl) ?_
  refine va_get (D := D) (ci := 4) (v := .ref (aI 5)) (C := RX4) (T := TX4) (N := 9) hx hb hts iX4 hown hK hP 0 rfl rfl 4 (by decide) f24 (fun _ h9 => h9) rfl dX4_tellShape_23 ?_
  refine lv_iload_n hx hb dX4_tellShape_26 rfl (lv_at hl 1 rfl) ?_
  refine lv_iconst (v := 0) hx hb dX4_tellShape_27 (by decide) ?_
  obtain ⟨hi4, h⟩ := gi_inv h
  refine va_iast hx hb hK hP hD hS 5 0 rfl rfl hi4 dX4_tellShape_28 (fun H locs hP hD hS => ?_)
  replace hP : va_P D vwCl (wI k aI (upd Iestimates (v1.toNatClampNeg) v2) Ivariances (upd Isorts (v1.toNatClampNeg) v3) (upd Iwidths (v1.toNatClampNeg) v4) (upd Icounts (v1.toNatClampNeg) 0) Ireadings Ifirsts Iseconds Icovariances) H := hP
  replace hD : va_D A (wI k aI (upd Iestimates (v1.toNatClampNeg) v2) Ivariances (upd Isorts (v1.toNatClampNeg) v3) (upd Iwidths (v1.toNatClampNeg) v4) (upd Icounts (v1.toNatClampNeg) 0) Ireadings Ifirsts Iseconds Icovariances) := hD
  refine lv_aload_n hx hb dX4_tellShape_29 rfl (lv_at hl 0 rfl) ?_
  refine va_get (D := D) (ci := 4) (v := .ref (aI 2)) (C := RX4) (T := TX4) (N := 9) hx hb hts iX4 hown hK hP 0 rfl rfl 1 (by decide) f15 (fun _ h9 => h9) rfl dX4_tellShape_30 ?_
  refine lv_iload_n hx hb dX4_tellShape_33 rfl (lv_at hl 1 rfl) ?_
  refine lv_iload_n hx hb dX4_tellShape_34 rfl (lv_at hl 3 rfl) ?_
  refine lv_iload hx hb dX4_tellShape_35 (lv_at hl 4 rfl) ?_
  refine lv_iload hx hb dX4_tellShape_37 (lv_at hl 4 rfl) ?_
  refine lv_imul hx hb dX4_tellShape_39 ?_
  obtain ⟨r5, hc5, h⟩ := bnd1_inv h
  have hPc := hP.sub (ws' := ([] : va_W)) [] rfl
  have hDc := hD.sub (ws' := ([] : va_W)) [] rfl rfl
  have hFc := va_free (wc := ([] : va_W)) hD hS hA [] rfl
  refine xc_i (va_runS (As := [.int v3, .int (v4 * v4)]) (rest := [.int v1, .ref (aI 2)]) ⟨hx, hb, hml, hown, hts⟩ (met_X4_shapeVariance l D k  H.size v3 (v4 * v4) r5 hc5) (va_cwS 2 hts gX4_tellShape_X4_shapeVariance rfl rfl rfl (by decide +kernel) ⟨Nat.le_of_ble_eq_true rfl, Nat.le_of_ble_eq_true rfl⟩) ⟨pw_blind, pw_start hPc hK hDc⟩ rfl rfl hl.1 rfl (lv_room (Nat.le_of_ble_eq_true rfl)) dX4_tellShape_40 ⟨Nat.zero_le _, Nat.zero_le _⟩) hS hFc (fun H1 locs hP1 hD1 hk1 hS => ?_)
  obtain ⟨hP, hD⟩ := vj (ws' := (wI k aI (upd Iestimates (v1.toNatClampNeg) v2) Ivariances (upd Isorts (v1.toNatClampNeg) v3) (upd Iwidths (v1.toNatClampNeg) v4) (upd Icounts (v1.toNatClampNeg) 0) Ireadings Ifirsts Iseconds Icovariances)) (w1 := ([] : va_W)) hP hD [] [0, 1, 2, 3, 4, 5, 6, 7, 8, 9, 10, 11, 12, 13, 14, 15, 16, 17, 18, 19, 20, 21] [0, 1, 2, 3, 4, 5, 6, 7, 8, 9, 10, 11, 12, 13, 14, 15, 16, 17, 18, 19, 20, 21] rfl rfl rfl rfl rfl hk1 hFc hP1 hD1
  clear hP1 hD1 hk1 hFc
  generalize H1 = H at hP hS ⊢
  obtain ⟨hi6, h⟩ := gi_inv h
  refine va_iast hx hb hK hP hD hS 2 0 rfl rfl hi6 dX4_tellShape_43 (fun H locs hP hD hS => ?_)
  replace hP : va_P D vwCl (wI k aI (upd Iestimates (v1.toNatClampNeg) v2) (upd Ivariances (v1.toNatClampNeg) r5) (upd Isorts (v1.toNatClampNeg) v3) (upd Iwidths (v1.toNatClampNeg) v4) (upd Icounts (v1.toNatClampNeg) 0) Ireadings Ifirsts Iseconds Icovariances) H := hP
  replace hD : va_D A (wI k aI (upd Iestimates (v1.toNatClampNeg) v2) (upd Ivariances (v1.toNatClampNeg) r5) (upd Isorts (v1.toNatClampNeg) v3) (upd Iwidths (v1.toNatClampNeg) v4) (upd Icounts (v1.toNatClampNeg) 0) Ireadings Ifirsts Iseconds Icovariances) := hD
  refine lv_aload_n hx hb dX4_tellShape_44 rfl (lv_at hl 0 rfl) ?_
  refine va_get (D := D) (ci := 4) (v := .ref (aI 2)) (C := RX4) (T := TX4) (N := 9) hx hb hts iX4 hown hK hP 0 rfl rfl 1 (by decide) f15 (fun _ h9 => h9) rfl dX4_tellShape_45 ?_
  refine lv_iload_n hx hb dX4_tellShape_48 rfl (lv_at hl 1 rfl) ?_
  obtain ⟨hi7, h⟩ := gi_inv h
  refine va_iald hx hb hK hP 2 0 rfl rfl hi7 dX4_tellShape_49 ?_
  have hP9 := hP
  have hD9 := hD
  have hS9 := hS
  subst hQ
  cases h
  exact W.iret hx hb hr (fun t ht hW => ⟨⟨_, (), rfl, rfl, by rw [ht]; exact hP9, va_K.moved hW.alike hK, hD9⟩, hS9.F ht⟩) hS9.2.2 dX4_tellShape_50
def fJ9_floorDiv_7cf53 (v0 : Int32) (v1 : Int32) : Option (Int32) := gz v1 ((if 0 ≤ (v0 ^^^ v1) then some (v0 / v1) else (if ((v0 / v1) * v1) = v0 then some (v0 / v1) else some ((v0 / v1) - 1))))
abbrev rmJ9_floorDiv_7cf53 : Room := { frames := 0, cells := 0, slots := 0, locals := 0 }
set_option maxHeartbeats 4000000 in
set_option maxRecDepth 100000 in
theorem met_J9_floorDiv_7cf53 (l : Launch) (D : va_G) (k : Nat → ClassId)   (sz : Nat)  (v0 : Int32) (v1 : Int32) (r : Int32) (h : fJ9_floorDiv_7cf53 v0 v1 = some r) : Met l yJ9_floorDiv_7cf53 wsJ9_floorDiv_7cf53 rmJ9_floorDiv_7cf53 (va_Pc [.int v0, .int v1] (PreW D k ([] : va_W) sz)) (va_Qi (fun r9 (_ : Unit) => r9 = r) (fun _ t => PostW D k (va_A ([] : va_W) sz) ([] : va_W) t) (va_A ([] : va_W) sz)) 0 0 (va_A ([] : va_W) sz) := by
  refine ofWF (cc := cJ9_floorDiv_7cf53) (maxL := 3) (ret := (some .int)) (by decide +kernel) rfl ?_
  intro p e s m args below meth c s₁ B hml hv
  obtain ⟨hav, hsz, hP, hK, hD0⟩ := hv
  have hx := B.exec
  have hb := B.bytes
  have hr := B.returns
  have hts := atoms_spec (ws := wsJ9_floorDiv_7cf53) B.pre
  have hown : s.vm.findClass RJ9 = some m.cls := findClass_of_methodNamed B.named
  have hlocks := B.notSynchronized
  subst hsz
  have hD := hD0.self (sz := s.heap.size)
  clear hD0
  generalize hAe : va_A ([] : va_W) s.heap.size = A at hD ⊢
  have hA : ∀ q : Nat, s.heap.size ≤ q → A q := fun q h => by rw [← hAe]; exact Or.inr h
  have hS : va_S A s.heap s.heap [] := va_S.rf
  have hl := lv_entry ([.int v0, .int v1]) (n := 3) (Nat.le_of_ble_eq_true rfl)
  rw [show entryFrame m args 3 = entryFrame m ([.int v0, .int v1] : List Value).toArray 3 from by rw [hav], lg_entry_eq]
  generalize (lg_sl ([.int v0, .int v1]) ++ List.replicate (3 - (lg_sl ([.int v0, .int v1])).length) Slot.unset).toArray = ls at hl ⊢
  replace hl : lv_has ls 3 [(0, .int v0), (1, .int v1)] := hl
  refine w_q (fun Q hQ => ?_)
  unfold fJ9_floorDiv_7cf53 at h
  show W p l e rmJ9_floorDiv_7cf53 s m args below meth c s.heap [] 0 0 Q (F0 m 0 ls [])
  suffices main : ∀ (H : Heap) (locs : List Loc) (ls : Array Slot), va_P D vwCl ([] : va_W) H → va_D A ([] : va_W) → va_S A s.heap H locs → lv_has ls 3 [(0, .int v0), (1, .int v1)] → W p l e rmJ9_floorDiv_7cf53 s m args below meth c H locs 0 0 Q (F0 m 0 ls []) from main _ _ _ hP hD hS hl
  clear hP hD hS hl ls hAe
  intro H locs ls hP hD hS hl
  refine lv_iload_n hx hb dJ9_floorDiv_7cf53_0 rfl (lv_at hl 0 rfl) ?_
  refine lv_iload_n hx hb dJ9_floorDiv_7cf53_1 rfl (lv_at hl 1 rfl) ?_
  obtain ⟨hz1, h⟩ := gz_inv h
  refine lv_idiv hx hb dJ9_floorDiv_7cf53_2 hz1 ?_
  refine lv_istore_n (lv' := [(2, .int (v0 / v1)), (0, .int v0), (1, .int v1)]) hx hb dJ9_floorDiv_7cf53_3 rfl hl (by decide) rfl (fun ls hl => ?_)
  refine lv_iload_n hx hb dJ9_floorDiv_7cf53_4 rfl (lv_at hl 1 rfl) ?_
  refine lv_iload_n hx hb dJ9_floorDiv_7cf53_5 rfl (lv_at hl 2 rfl) ?_
  refine lv_ixor hx hb dJ9_floorDiv_7cf53_6 ?_
  refine lv_if_ge (tgt := 21) hx hb dJ9_floorDiv_7cf53_7 (by decide) (fun c2 => ?_) (fun c2 => ?_)
  · replace h := sf_t c2 h
    refine lv_iload_n hx hb dJ9_floorDiv_7cf53_21 rfl (lv_at hl 0 rfl) ?_
    have hP9 := hP
    have hD9 := hD
    have hS9 := hS
    subst hQ
    cases h
    exact W.iret hx hb hr (fun t ht hW => ⟨⟨_, (), rfl, rfl, by rw [ht]; exact hP9, va_K.moved hW.alike hK, hD9⟩, hS9.F ht⟩) hS9.2.2 dJ9_floorDiv_7cf53_22
  · replace h := sf_f c2 h
    refine lv_iload_n hx hb dJ9_floorDiv_7cf53_10 rfl (lv_at hl 0 rfl) ?_
    refine lv_iload_n hx hb dJ9_floorDiv_7cf53_11 rfl (lv_at hl 2 rfl) ?_
    refine lv_imul hx hb dJ9_floorDiv_7cf53_12 ?_
    refine lv_iload_n hx hb dJ9_floorDiv_7cf53_13 rfl (lv_at hl 1 rfl) ?_
    refine lv_icmp_eq (tgt := 21) hx hb dJ9_floorDiv_7cf53_14 (by decide) (fun c3 => ?_) (fun c3 => ?_)
    · replace h := sf_t c3 h
      refine lv_iload_n hx hb dJ9_floorDiv_7cf53_21 rfl (lv_at hl 0 rfl) ?_
      have hP9 := hP
      have hD9 := hD
      have hS9 := hS
      subst hQ
      cases h
      exact W.iret hx hb hr (fun t ht hW => ⟨⟨_, (), rfl, rfl, by rw [ht]; exact hP9, va_K.moved hW.alike hK, hD9⟩, hS9.F ht⟩) hS9.2.2 dJ9_floorDiv_7cf53_22
    · replace h := sf_f c3 h
      refine lv_iload_n hx hb dJ9_floorDiv_7cf53_17 rfl (lv_at hl 0 rfl) ?_
      refine lv_iconst (v := 1) hx hb dJ9_floorDiv_7cf53_18 (by decide) ?_
      refine lv_isub hx hb dJ9_floorDiv_7cf53_19 ?_
      have hP9 := hP
      have hD9 := hD
      have hS9 := hS
      subst hQ
      cases h
      exact W.iret hx hb hr (fun t ht hW => ⟨⟨_, (), rfl, rfl, by rw [ht]; exact hP9, va_K.moved hW.alike hK, hD9⟩, hS9.F ht⟩) hS9.2.2 dJ9_floorDiv_7cf53_20
def LX4_reckonReadings_15 (Icounts : Nat → Int32) (Ireadings : Nat → Nat → Int32) (v1 : Int32) (E53 : Int32 → Int32 → Int32 → (Nat → Int32) → (Nat → Int32) → Option ((Nat → Int32) × (Nat → Int32))) : Nat → Int32 → Int32 → Int32 → Int32 → (Nat → Int32) → (Nat → Int32) → Option ((Nat → Int32) × (Nat → Int32))
  | 0, _, _, _, _, _, _ => none
  | fuel + 1, v2, v3, v4, v5, Iestimates, Ivariances => (if v2 ≤ v5 then E53 v2 v3 v4 Iestimates Ivariances else gi v1 6 (gi v5 8 (LX4_reckonReadings_15 Icounts Ireadings v1 E53 fuel v2 (v3 + (Ireadings (v1.toNatClampNeg) v5.toNatClampNeg)) (v4 + ((Ireadings (v1.toNatClampNeg) v5.toNatClampNeg) * (Ireadings (v1.toNatClampNeg) v5.toNatClampNeg))) (v5 + 1) Iestimates Ivariances)))
def BX4_reckonReadings_71 (Icounts : Nat → Int32) (Ireadings : Nat → Nat → Int32) (v1 : Int32)  (v2 : Int32) (v3 : Int32) (v4 : Int32) (s1 : Int32) (s2 : Int32) (Iestimates : Nat → Int32) (Ivariances : Nat → Int32) : Option ((Nat → Int32) × (Nat → Int32)) := gi s1 6 ((if v2 ≤ 1 then gi v1 6 (some (upd Iestimates (s1.toNatClampNeg) s2, upd Ivariances (v1.toNatClampNeg) 0)) else gz ((v2 * v2) * (v2 - 1)) (gi v1 6 (some (upd Iestimates (s1.toNatClampNeg) s2, upd Ivariances (v1.toNatClampNeg) (((v2 * v4) - (v3 * v3)) / ((v2 * v2) * (v2 - 1))))))))
def fX4_reckonReadings (v1 : Int32) (Iestimates : Nat → Int32) (Ivariances : Nat → Int32) (Icounts : Nat → Int32) (Ireadings : Nat → Nat → Int32) : Option ((Nat → Int32) × (Nat → Int32)) := gi v1 6 (LX4_reckonReadings_15 Icounts Ireadings v1 (fun (v2 : Int32) (v3 : Int32) (v4 : Int32) (Iestimates : Nat → Int32) (Ivariances : Nat → Int32) => (if v2 ≤ 0 then BX4_reckonReadings_71 Icounts Ireadings v1 v2 v3 v4 v1 0 Iestimates Ivariances else bnd1 (fJ9_floorDiv_7cf53 v3 v2) (fun r11 => BX4_reckonReadings_71 Icounts Ireadings v1 v2 v3 v4 v1 r11 Iestimates Ivariances))) 1000 (Icounts v1.toNatClampNeg) 0 0 0 Iestimates Ivariances)
abbrev rmX4_reckonReadings : Room := { frames := 1, cells := 0, slots := 0, locals := 22 }
set_option maxHeartbeats 4000000 in
set_option maxRecDepth 100000 in
theorem met_X4_reckonReadings (l : Launch) (D : va_G) (k : Nat → ClassId)  (aI : Nat → Nat) (sz : Nat) (Iestimates : Nat → Int32) (Ivariances : Nat → Int32) (Isorts : Nat → Int32) (Iwidths : Nat → Int32) (Icounts : Nat → Int32) (Ireadings : Nat → Nat → Int32) (Ifirsts : Nat → Int32) (Iseconds : Nat → Int32) (Icovariances : Nat → Nat → Int32) (v1 : Int32) (RIestimates : Nat → Int32) (RIvariances : Nat → Int32) (h : fX4_reckonReadings v1 Iestimates Ivariances Icounts Ireadings = some (RIestimates, RIvariances)) : Met l yX4_reckonReadings wsX4_reckonReadings rmX4_reckonReadings (va_Pc [.ref (aI 0), .int v1] (PreW D k (wI k aI Iestimates Ivariances Isorts Iwidths Icounts Ireadings Ifirsts Iseconds Icovariances) sz)) (va_Qv (fun _ : Unit => True) (fun _ t => PostW D k (va_A (wI k aI Iestimates Ivariances Isorts Iwidths Icounts Ireadings Ifirsts Iseconds Icovariances) sz) (wI k aI RIestimates RIvariances Isorts Iwidths Icounts Ireadings Ifirsts Iseconds Icovariances) t) (va_A (wI k aI Iestimates Ivariances Isorts Iwidths Icounts Ireadings Ifirsts Iseconds Icovariances) sz)) 0 0 (va_A (wI k aI Iestimates Ivariances Isorts Iwidths Icounts Ireadings Ifirsts Iseconds Icovariances) sz) := by
  refine Met.ofW (cc := cX4_reckonReadings) (maxL := 7) (ret := none) (by decide) rfl ?_
  intro p e s m args below meth c s₁ B hml hv
  obtain ⟨hav, hsz, hP, hK, hD0⟩ := hv
  have hx := B.exec
  have hb := B.bytes
  have hr := B.returns
  have hts := atoms_spec (ws := wsX4_reckonReadings) B.pre
  have hown : s.vm.findClass RX4 = some m.cls := findClass_of_methodNamed B.named
  have hlocks := B.notSynchronized
  subst hsz
  have hD := hD0.self (sz := s.heap.size)
  clear hD0
  generalize hAe : va_A (wI k aI Iestimates Ivariances Isorts Iwidths Icounts Ireadings Ifirsts Iseconds Icovariances) s.heap.size = A at hD ⊢
  have hA : ∀ q : Nat, s.heap.size ≤ q → A q := fun q h => by rw [← hAe]; exact Or.inr h
  have hS : va_S A s.heap s.heap [] := va_S.rf
  have hl := lv_entry ([.ref (aI 0), .int v1]) (n := 7) (Nat.le_of_ble_eq_true rfl)
  rw [show entryFrame m args 7 = entryFrame m ([.ref (aI 0), .int v1] : List Value).toArray 7 from by rw [hav], lg_entry_eq]
  generalize (lg_sl ([.ref (aI 0), .int v1]) ++ List.replicate (7 - (lg_sl ([.ref (aI 0), .int v1])).length) Slot.unset).toArray = ls at hl ⊢
  replace hl : lv_has ls 7 [(0, .ref (aI 0)), (1, .int v1)] := hl
  have f9 := hts (.fieldLink RX4 9 "UncertainBook$Inputs" "estimates" "[I") (by decide +kernel)
  have f15 := hts (.fieldLink RX4 15 "UncertainBook$Inputs" "variances" "[I") (by decide +kernel)
  have f24 := hts (.fieldLink RX4 24 "UncertainBook$Inputs" "counts" "[I") (by decide +kernel)
  have f29 := hts (.fieldLink RX4 29 "UncertainBook$Inputs" "readings" "[[I") (by decide +kernel)
  have iX4 : ∀ w ∈ u_ws RX4 TX4 9, w ∈ wsX4_reckonReadings := by decide +kernel
  refine w_q (fun Q hQ => ?_)
  unfold fX4_reckonReadings at h
  show W p l e rmX4_reckonReadings s m args below meth c s.heap [] 0 0 Q (F0 m 0 ls [])
  have LH_15 : ∀ (E53 : Int32 → Int32 → Int32 → (Nat → Int32) → (Nat → Int32) → Option ((Nat → Int32) × (Nat → Int32))) (hE53 : ∀ (v2 : Int32) (v3 : Int32) (v4 : Int32) (Iestimates : Nat → Int32) (Ivariances : Nat → Int32), E53 v2 v3 v4 Iestimates Ivariances = some (RIestimates, RIvariances) → ∀ (H : Heap) (locs : List Loc) (ls : Array Slot), va_P D vwCl (wI k aI Iestimates Ivariances Isorts Iwidths Icounts Ireadings Ifirsts Iseconds Icovariances) H → va_D A (wI k aI Iestimates Ivariances Isorts Iwidths Icounts Ireadings Ifirsts Iseconds Icovariances) → va_S A s.heap H locs → lv_has ls 7 [(0, .ref (aI 0)), (1, .int v1), (2, .int v2), (3, .int v3), (4, .int v4)] → W p l e rmX4_reckonReadings s m args below meth c H locs 0 0 Q (F0 m 53 ls [])) (n : Nat) (v2 : Int32) (v3 : Int32) (v4 : Int32) (v5 : Int32) (Iestimates : Nat → Int32) (Ivariances : Nat → Int32), LX4_reckonReadings_15 Icounts Ireadings v1 E53 n v2 v3 v4 v5 Iestimates Ivariances = some (RIestimates, RIvariances) → ∀ (H : Heap) (locs : List Loc) (ls : Array Slot), va_P D vwCl (wI k aI Iestimates Ivariances Isorts Iwidths Icounts Ireadings Ifirsts Iseconds Icovariances) H → va_D A (wI k aI Iestimates Ivariances Isorts Iwidths Icounts Ireadings Ifirsts Iseconds Icovariances) → va_S A s.heap H locs → lv_has ls 7 [(0, .ref (aI 0)), (1, .int v1), (2, .int v2), (3, .int v3), (4, .int v4), (5, .int v5)] → W p l e rmX4_reckonReadings s m args below meth c H locs 0 0 Q (F0 m 15 ls []) := by
    intro E53 hE53 n
    induction n with
    | zero => intro v2 v3 v4 v5 Iestimates Ivariances h; simp [LX4_reckonReadings_15] at h
    | succ n ih =>
    intro v2 v3 v4 v5 Iestimates Ivariances h H locs ls hP hD hS hl
    rw [LX4_reckonReadings_15] at h
    refine lv_iload hx hb dX4_reckonReadings_15 (lv_at hl 5 rfl) ?_
    refine lv_iload_n hx hb dX4_reckonReadings_17 rfl (lv_at hl 2 rfl) ?_
    refine lv_icmp_ge (tgt := 53) hx hb dX4_reckonReadings_18 (by decide) (fun c2 => ?_) (fun c2 => ?_)
    · replace h := sf_t c2 h
      exact hE53 _ _ _ _ _ h _ _ _ hP hD hS (lv_sub hl [0, 1, 2, 3, 4] rfl)
    · replace h := sf_f c2 h
      refine lv_aload_n hx hb dX4_reckonReadings_21 rfl (lv_at hl 0 rfl) ?_
      refine va_get (D := D) (ci := 4) (v := .ref (aI 6)) (C := RX4) (T := TX4) (N := 9) hx hb hts iX4 hown hK hP 0 rfl rfl 5 (by decide) f29 (fun _ h9 => h9) rfl dX4_reckonReadings_22 ?_
      refine lv_iload_n hx hb dX4_reckonReadings_25 rfl (lv_at hl 1 rfl) ?_
      obtain ⟨hi3, h⟩ := gi_inv h
      have hj3 : v1.toNatClampNeg < 6 := vp_lt hi3
      refine va_alda (v := aI (7 + v1.toNatClampNeg)) hx hb hK hP 6 4 rfl rfl hi3 (by rw [if_pos hj3]) dX4_reckonReadings_26 ?_
      refine lv_iload hx hb dX4_reckonReadings_27 (lv_at hl 5 rfl) ?_
      obtain ⟨hi4, h⟩ := gi_inv h
      have hrow : ∀ (M9 : Nat → Nat → Int32) (j : Nat), j < 6 → (wI k aI Iestimates Ivariances Isorts Iwidths Icounts M9 Ifirsts Iseconds Icovariances)[7 + j]? = some (aI (7 + j), .inl (k 0, 8, .inl (M9 j))) := fun M9 j hj => by rcases (show j = 0 ∨ j = 1 ∨ j = 2 ∨ j = 3 ∨ j = 4 ∨ j = 5 by omega) with rfl | rfl | rfl | rfl | rfl | rfl <;> rfl
      refine va_iald hx hb hK hP (7 + v1.toNatClampNeg) 0 (hrow _ _ hj3) rfl hi4 dX4_reckonReadings_29 ?_
      clear hrow
      refine lv_istore (lv' := [(6, .int (Ireadings (v1.toNatClampNeg) v5.toNatClampNeg)), (0, .ref (aI 0)), (1, .int v1), (2, .int v2), (3, .int v3), (4, .int v4), (5, .int v5)]) hx hb dX4_reckonReadings_30 hl (by decide) rfl (fun ls hl => ?_)
      refine lv_iload_n hx hb dX4_reckonReadings_32 rfl (lv_at hl 4 rfl) ?_
      refine lv_iload hx hb dX4_reckonReadings_33 (lv_at hl 0 rfl) ?_
      refine lv_iadd hx hb dX4_reckonReadings_35 ?_
      refine lv_istore_n (lv' := [(3, .int (v3 + (Ireadings (v1.toNatClampNeg) v5.toNatClampNeg))), (6, .int (Ireadings (v1.toNatClampNeg) v5.toNatClampNeg)), (0, .ref (aI 0)), (1, .int v1), (2, .int v2), (4, .int v4), (5, .int v5)]) hx hb dX4_reckonReadings_36 rfl hl (by decide) rfl (fun ls hl => ?_)
      refine lv_iload hx hb dX4_reckonReadings_37 (lv_at hl 5 rfl) ?_
      refine lv_iload hx hb dX4_reckonReadings_39 (lv_at hl 1 rfl) ?_
      refine lv_iload hx hb dX4_reckonReadings_41 (lv_at hl 1 rfl) ?_
      refine lv_imul hx hb dX4_reckonReadings_43 ?_
      refine lv_iadd hx hb dX4_reckonReadings_44 ?_
      refine lv_istore (lv' := [(4, .int (v4 + ((Ireadings (v1.toNatClampNeg) v5.toNatClampNeg) * (Ireadings (v1.toNatClampNeg) v5.toNatClampNeg)))), (3, .int (v3 + (Ireadings (v1.toNatClampNeg) v5.toNatClampNeg))), (6, .int (Ireadings (v1.toNatClampNeg) v5.toNatClampNeg)), (0, .ref (aI 0)), (1, .int v1), (2, .int v2), (5, .int v5)]) hx hb dX4_reckonReadings_45 hl (by decide) rfl (fun ls hl => ?_)
      refine lv_iinc (v := v5 + 1) (lv' := [(5, .int (v5 + 1)), (4, .int (v4 + ((Ireadings (v1.toNatClampNeg) v5.toNatClampNeg) * (Ireadings (v1.toNatClampNeg) v5.toNatClampNeg)))), (3, .int (v3 + (Ireadings (v1.toNatClampNeg) v5.toNatClampNeg))), (6, .int (Ireadings (v1.toNatClampNeg) v5.toNatClampNeg)), (0, .ref (aI 0)), (1, .int v1), (2, .int v2)]) hx hb dX4_reckonReadings_47 hl (k := 6) rfl rfl (by decide) rfl (fun ls hl => ?_)
      refine lv_goto (tgt := 15) hx hb dX4_reckonReadings_50 (by decide) ?_
      exact ih _ _ _ _ _ _ h _ _ _ hP hD hS (lv_sub hl [4, 5, 6, 2, 1, 0] rfl)
  have BH_71 : ∀ (v2 : Int32) (v3 : Int32) (v4 : Int32) (s1 : Int32) (s2 : Int32) (Iestimates : Nat → Int32) (Ivariances : Nat → Int32), BX4_reckonReadings_71 Icounts Ireadings v1 v2 v3 v4 s1 s2 Iestimates Ivariances = some (RIestimates, RIvariances) → ∀ (H : Heap) (locs : List Loc) (ls : Array Slot), va_P D vwCl (wI k aI Iestimates Ivariances Isorts Iwidths Icounts Ireadings Ifirsts Iseconds Icovariances) H → va_D A (wI k aI Iestimates Ivariances Isorts Iwidths Icounts Ireadings Ifirsts Iseconds Icovariances) → va_S A s.heap H locs → lv_has ls 7 [(0, .ref (aI 0)), (1, .int v1), (2, .int v2), (3, .int v3), (4, .int v4)] → W p l e rmX4_reckonReadings s m args below meth c H locs 0 0 Q (F0 m 71 ls [.int s2, .int s1, .ref (aI 1)]) := by
    intro  v2 v3 v4 s1 s2 Iestimates Ivariances h H locs ls hP hD hS hl
    unfold BX4_reckonReadings_71 at h
    obtain ⟨hi6, h⟩ := gi_inv h
    refine va_iast hx hb hK hP hD hS 1 0 rfl rfl hi6 dX4_reckonReadings_71 (fun H locs hP hD hS => ?_)
    replace hP : va_P D vwCl (wI k aI (upd Iestimates (s1.toNatClampNeg) s2) Ivariances Isorts Iwidths Icounts Ireadings Ifirsts Iseconds Icovariances) H := hP
    replace hD : va_D A (wI k aI (upd Iestimates (s1.toNatClampNeg) s2) Ivariances Isorts Iwidths Icounts Ireadings Ifirsts Iseconds Icovariances) := hD
    refine lv_aload_n hx hb dX4_reckonReadings_72 rfl (lv_at hl 0 rfl) ?_
    refine va_get (D := D) (ci := 4) (v := .ref (aI 2)) (C := RX4) (T := TX4) (N := 9) hx hb hts iX4 hown hK hP 0 rfl rfl 1 (by decide) f15 (fun _ h9 => h9) rfl dX4_reckonReadings_73 ?_
    refine lv_iload_n hx hb dX4_reckonReadings_76 rfl (lv_at hl 1 rfl) ?_
    refine lv_iload_n hx hb dX4_reckonReadings_77 rfl (lv_at hl 2 rfl) ?_
    refine lv_iconst (v := 1) hx hb dX4_reckonReadings_78 (by decide) ?_
    refine lv_icmp_le (tgt := 101) hx hb dX4_reckonReadings_79 (by decide) (fun c7 => ?_) (fun c7 => ?_)
    · replace h := sf_t c7 h
      refine lv_iconst (v := 0) hx hb dX4_reckonReadings_101 (by decide) ?_
      obtain ⟨hi8, h⟩ := gi_inv h
      refine va_iast hx hb hK hP hD hS 2 0 rfl rfl hi8 dX4_reckonReadings_102 (fun H locs hP hD hS => ?_)
      replace hP : va_P D vwCl (wI k aI (upd Iestimates (s1.toNatClampNeg) s2) (upd Ivariances (v1.toNatClampNeg) 0) Isorts Iwidths Icounts Ireadings Ifirsts Iseconds Icovariances) H := hP
      replace hD : va_D A (wI k aI (upd Iestimates (s1.toNatClampNeg) s2) (upd Ivariances (v1.toNatClampNeg) 0) Isorts Iwidths Icounts Ireadings Ifirsts Iseconds Icovariances) := hD
      have hP9 := hP
      have hD9 := hD
      have hS9 := hS
      subst hQ
      cases h
      exact W.vret hx hb hr (fun t ht hW => ⟨⟨(), rfl, trivial, by rw [ht]; exact hP9, va_K.moved hW.alike hK, hD9⟩, hS9.F ht⟩) hS9.2.2 dX4_reckonReadings_103
    · replace h := sf_f c7 h
      refine lv_iload_n hx hb dX4_reckonReadings_82 rfl (lv_at hl 2 rfl) ?_
      refine lv_iload hx hb dX4_reckonReadings_83 (lv_at hl 4 rfl) ?_
      refine lv_imul hx hb dX4_reckonReadings_85 ?_
      refine lv_iload_n hx hb dX4_reckonReadings_86 rfl (lv_at hl 3 rfl) ?_
      refine lv_iload_n hx hb dX4_reckonReadings_87 rfl (lv_at hl 3 rfl) ?_
      refine lv_imul hx hb dX4_reckonReadings_88 ?_
      refine lv_isub hx hb dX4_reckonReadings_89 ?_
      refine lv_iload_n hx hb dX4_reckonReadings_90 rfl (lv_at hl 2 rfl) ?_
      refine lv_iload_n hx hb dX4_reckonReadings_91 rfl (lv_at hl 2 rfl) ?_
      refine lv_imul hx hb dX4_reckonReadings_92 ?_
      refine lv_iload_n hx hb dX4_reckonReadings_93 rfl (lv_at hl 2 rfl) ?_
      refine lv_iconst (v := 1) hx hb dX4_reckonReadings_94 (by decide) ?_
      refine lv_isub hx hb dX4_reckonReadings_95 ?_
      refine lv_imul hx hb dX4_reckonReadings_96 ?_
      obtain ⟨hz9, h⟩ := gz_inv h
      refine lv_idiv hx hb dX4_reckonReadings_97 hz9 ?_
      refine lv_goto (tgt := 102) hx hb dX4_reckonReadings_98 (by decide) ?_
      obtain ⟨hi10, h⟩ := gi_inv h
      refine va_iast hx hb hK hP hD hS 2 0 rfl rfl hi10 dX4_reckonReadings_102 (fun H locs hP hD hS => ?_)
      replace hP : va_P D vwCl (wI k aI (upd Iestimates (s1.toNatClampNeg) s2) (upd Ivariances (v1.toNatClampNeg) (((v2 * v4) - (v3 * v3)) / ((v2 * v2) * (v2 - 1)))) Isorts Iwidths Icounts Ireadings Ifirsts Iseconds Icovariances) H := hP
      replace hD : va_D A (wI k aI (upd Iestimates (s1.toNatClampNeg) s2) (upd Ivariances (v1.toNatClampNeg) (((v2 * v4) - (v3 * v3)) / ((v2 * v2) * (v2 - 1)))) Isorts Iwidths Icounts Ireadings Ifirsts Iseconds Icovariances) := hD
      have hP9 := hP
      have hD9 := hD
      have hS9 := hS
      subst hQ
      cases h
      exact W.vret hx hb hr (fun t ht hW => ⟨⟨(), rfl, trivial, by rw [ht]; exact hP9, va_K.moved hW.alike hK, hD9⟩, hS9.F ht⟩) hS9.2.2 dX4_reckonReadings_103
  suffices main : ∀ (H : Heap) (locs : List Loc) (ls : Array Slot), va_P D vwCl (wI k aI Iestimates Ivariances Isorts Iwidths Icounts Ireadings Ifirsts Iseconds Icovariances) H → va_D A (wI k aI Iestimates Ivariances Isorts Iwidths Icounts Ireadings Ifirsts Iseconds Icovariances) → va_S A s.heap H locs → lv_has ls 7 [(0, .ref (aI 0)), (1, .int v1)] → W p l e rmX4_reckonReadings s m args below meth c H locs 0 0 Q (F0 m 0 ls []) from main _ _ _ hP hD hS hl
  clear hP hD hS hl ls hAe
  intro H locs ls hP hD hS hl
  refine lv_aload_n hx hb dX4_reckonReadings_0 rfl (lv_at hl 0 rfl) ?_
  refine va_get (D := D) (ci := 4) (v := .ref (aI 5)) (C := RX4) (T := TX4) (N := 9) hx hb hts iX4 hown hK hP 0 rfl rfl 4 (by decide) f24 (fun _ h9 => h9) rfl dX4_reckonReadings_1 ?_
  refine lv_iload_n hx hb dX4_reckonReadings_4 rfl (lv_at hl 1 rfl) ?_
  obtain ⟨hi1, h⟩ := gi_inv h
  refine va_iald hx hb hK hP 5 0 rfl rfl hi1 dX4_reckonReadings_5 ?_
  refine lv_istore_n (lv' := [(2, .int (Icounts v1.toNatClampNeg)), (0, .ref (aI 0)), (1, .int v1)]) hx hb dX4_reckonReadings_6 rfl hl (by decide) rfl (fun ls hl => ?_)
  refine lv_iconst (v := 0) hx hb dX4_reckonReadings_7 (by decide) ?_
  refine lv_istore_n (lv' := [(3, .int 0), (2, .int (Icounts v1.toNatClampNeg)), (0, .ref (aI 0)), (1, .int v1)]) hx hb dX4_reckonReadings_8 rfl hl (by decide) rfl (fun ls hl => ?_)
  refine lv_iconst (v := 0) hx hb dX4_reckonReadings_9 (by decide) ?_
  refine lv_istore (lv' := [(4, .int 0), (3, .int 0), (2, .int (Icounts v1.toNatClampNeg)), (0, .ref (aI 0)), (1, .int v1)]) hx hb dX4_reckonReadings_10 hl (by decide) rfl (fun ls hl => ?_)
  refine lv_iconst (v := 0) hx hb dX4_reckonReadings_12 (by decide) ?_
  refine lv_istore (lv' := [(5, .int 0), (4, .int 0), (3, .int 0), (2, .int (Icounts v1.toNatClampNeg)), (0, .ref (aI 0)), (1, .int v1)]) hx hb dX4_reckonReadings_13 hl (by decide) rfl (fun ls hl => ?_)
  refine LH_15 _ (fun v2 v3 v4 Iestimates Ivariances h H locs ls hP hD hS hl => ?_) _ _ _ _ _ _ _ h _ _ _ hP hD hS (lv_sub hl [4, 5, 3, 2, 1, 0] rfl)
  · skip
    refine lv_aload_n hx hb dX4_reckonReadings_53 rfl (lv_at hl 0 rfl) ?_
    refine va_get (D := D) (ci := 4) (v := .ref (aI 1)) (C := RX4) (T := TX4) (N := 9) hx hb hts iX4 hown hK hP 0 rfl rfl 0 (by decide) f9 (fun _ h9 => h9) rfl dX4_reckonReadings_54 ?_
    refine lv_iload_n hx hb dX4_reckonReadings_57 rfl (lv_at hl 1 rfl) ?_
    refine lv_iload_n hx hb dX4_reckonReadings_58 rfl (lv_at hl 2 rfl) ?_
    refine lv_if_le (tgt := 70) hx hb dX4_reckonReadings_59 (by decide) (fun c5 => ?_) (fun c5 => ?_)
    · replace h := sf_t c5 h
      refine lv_iconst (v := 0) hx hb dX4_reckonReadings_70 (by decide) ?_
      exact BH_71  _ _ _ _ _ _ _ h _ _ _ hP hD hS (lv_sub hl [0, 1, 2, 3, 4] rfl)
    · replace h := sf_f c5 h
      refine lv_iload_n hx hb dX4_reckonReadings_62 rfl (lv_at hl 3 rfl) ?_
      refine lv_iload_n hx hb dX4_reckonReadings_63 rfl (lv_at hl 2 rfl) ?_
      obtain ⟨r11, hc11, h⟩ := bnd1_inv h
      have hPc := hP.sub (ws' := ([] : va_W)) [] rfl
      have hDc := hD.sub (ws' := ([] : va_W)) [] rfl rfl
      have hFc := va_free (wc := ([] : va_W)) hD hS hA [] rfl
      refine xc_i (va_runS (As := [.int v3, .int v2]) (rest := [.int v1, .ref (aI 1)]) ⟨hx, hb, hml, hown, hts⟩ (met_J9_floorDiv_7cf53 l D k  H.size v3 v2 r11 hc11) (va_cwS 2 hts gX4_reckonReadings_J9_floorDiv_7cf53 rfl rfl rfl (by decide +kernel) ⟨Nat.le_of_ble_eq_true rfl, Nat.le_of_ble_eq_true rfl⟩) ⟨pw_blind, pw_start hPc hK hDc⟩ rfl rfl hl.1 rfl (lv_room (Nat.le_of_ble_eq_true rfl)) dX4_reckonReadings_64 ⟨Nat.zero_le _, Nat.zero_le _⟩) hS hFc (fun H1 locs hP1 hD1 hk1 hS => ?_)
      obtain ⟨hP, hD⟩ := vj (ws' := (wI k aI Iestimates Ivariances Isorts Iwidths Icounts Ireadings Ifirsts Iseconds Icovariances)) (w1 := ([] : va_W)) hP hD [] [0, 1, 2, 3, 4, 5, 6, 7, 8, 9, 10, 11, 12, 13, 14, 15, 16, 17, 18, 19, 20, 21] [0, 1, 2, 3, 4, 5, 6, 7, 8, 9, 10, 11, 12, 13, 14, 15, 16, 17, 18, 19, 20, 21] rfl rfl rfl rfl rfl hk1 hFc hP1 hD1
      clear hP1 hD1 hk1 hFc
      generalize H1 = H at hP hS ⊢
      refine lv_goto (tgt := 71) hx hb dX4_reckonReadings_67 (by decide) ?_
      exact BH_71  _ _ _ _ _ _ _ h _ _ _ hP hD hS (lv_sub hl [0, 1, 2, 3, 4] rfl)
def BX4_addReading_31 (v1 : Int32) (v2 : Int32)  (Iestimates : Nat → Int32) (Ivariances : Nat → Int32) (Isorts : Nat → Int32) (Icounts : Nat → Int32) (Ireadings : Nat → Nat → Int32) : Option (Int32 × (Nat → Int32) × (Nat → Int32) × (Nat → Int32) × (Nat → Int32) × (Nat → Nat → Int32)) := gi v1 6 (bnd2 (fX4_reckonReadings v1 Iestimates Ivariances Icounts Ireadings) (fun estimates_4 variances_4 => gi v1 6 (some (variances_4 v1.toNatClampNeg, estimates_4, variances_4, upd Isorts (v1.toNatClampNeg) 4, Icounts, Ireadings))))
def fX4_addReading (v1 : Int32) (v2 : Int32) (Iestimates : Nat → Int32) (Ivariances : Nat → Int32) (Isorts : Nat → Int32) (Icounts : Nat → Int32) (Ireadings : Nat → Nat → Int32) : Option (Int32 × (Nat → Int32) × (Nat → Int32) × (Nat → Int32) × (Nat → Int32) × (Nat → Nat → Int32)) := gi v1 6 ((if 8 ≤ (Icounts v1.toNatClampNeg) then BX4_addReading_31 v1 v2 Iestimates Ivariances Isorts Icounts Ireadings else gi v1 6 (gi (Icounts v1.toNatClampNeg) 8 (gi v1 6 (BX4_addReading_31 v1 v2 Iestimates Ivariances Isorts (upd Icounts (v1.toNatClampNeg) ((Icounts v1.toNatClampNeg) + 1)) (upd2 Ireadings (v1.toNatClampNeg) ((Icounts v1.toNatClampNeg).toNatClampNeg) v2))))))
abbrev rmX4_addReading : Room := { frames := 2, cells := 0, slots := 0, locals := 48 }
set_option maxHeartbeats 4000000 in
set_option maxRecDepth 100000 in
theorem met_X4_addReading (l : Launch) (D : va_G) (k : Nat → ClassId)  (aI : Nat → Nat) (sz : Nat) (Iestimates : Nat → Int32) (Ivariances : Nat → Int32) (Isorts : Nat → Int32) (Iwidths : Nat → Int32) (Icounts : Nat → Int32) (Ireadings : Nat → Nat → Int32) (Ifirsts : Nat → Int32) (Iseconds : Nat → Int32) (Icovariances : Nat → Nat → Int32) (v1 : Int32) (v2 : Int32) (r : Int32) (RIestimates : Nat → Int32) (RIvariances : Nat → Int32) (RIsorts : Nat → Int32) (RIcounts : Nat → Int32) (RIreadings : Nat → Nat → Int32) (h : fX4_addReading v1 v2 Iestimates Ivariances Isorts Icounts Ireadings = some (r, RIestimates, RIvariances, RIsorts, RIcounts, RIreadings)) : Met l yX4_addReading wsX4_addReading rmX4_addReading (va_Pc [.ref (aI 0), .int v1, .int v2] (PreW D k (wI k aI Iestimates Ivariances Isorts Iwidths Icounts Ireadings Ifirsts Iseconds Icovariances) sz)) (va_Qi (fun r9 (_ : Unit) => r9 = r) (fun _ t => PostW D k (va_A (wI k aI Iestimates Ivariances Isorts Iwidths Icounts Ireadings Ifirsts Iseconds Icovariances) sz) (wI k aI RIestimates RIvariances RIsorts Iwidths RIcounts RIreadings Ifirsts Iseconds Icovariances) t) (va_A (wI k aI Iestimates Ivariances Isorts Iwidths Icounts Ireadings Ifirsts Iseconds Icovariances) sz)) 0 0 (va_A (wI k aI Iestimates Ivariances Isorts Iwidths Icounts Ireadings Ifirsts Iseconds Icovariances) sz) := by
  refine Met.ofW (cc := cX4_addReading) (maxL := 4) (ret := (some .int)) (by decide) rfl ?_
  intro p e s m args below meth c s₁ B hml hv
  obtain ⟨hav, hsz, hP, hK, hD0⟩ := hv
  have hx := B.exec
  have hb := B.bytes
  have hr := B.returns
  have hts := atoms_spec (ws := wsX4_addReading) B.pre
  have hown : s.vm.findClass RX4 = some m.cls := findClass_of_methodNamed B.named
  have hlocks := B.notSynchronized
  subst hsz
  have hD := hD0.self (sz := s.heap.size)
  clear hD0
  generalize hAe : va_A (wI k aI Iestimates Ivariances Isorts Iwidths Icounts Ireadings Ifirsts Iseconds Icovariances) s.heap.size = A at hD ⊢
  have hA : ∀ q : Nat, s.heap.size ≤ q → A q := fun q h => by rw [← hAe]; exact Or.inr h
  have hS : va_S A s.heap s.heap [] := va_S.rf
  have hl := lv_entry ([.ref (aI 0), .int v1, .int v2]) (n := 4) (Nat.le_of_ble_eq_true rfl)
  rw [show entryFrame m args 4 = entryFrame m ([.ref (aI 0), .int v1, .int v2] : List Value).toArray 4 from by rw [hav], lg_entry_eq]
  generalize (lg_sl ([.ref (aI 0), .int v1, .int v2]) ++ List.replicate (4 - (lg_sl ([.ref (aI 0), .int v1, .int v2])).length) Slot.unset).toArray = ls at hl ⊢
  replace hl : lv_has ls 4 [(0, .ref (aI 0)), (1, .int v1), (2, .int v2)] := hl
  have f15 := hts (.fieldLink RX4 15 "UncertainBook$Inputs" "variances" "[I") (by decide +kernel)
  have f18 := hts (.fieldLink RX4 18 "UncertainBook$Inputs" "sorts" "[I") (by decide +kernel)
  have f24 := hts (.fieldLink RX4 24 "UncertainBook$Inputs" "counts" "[I") (by decide +kernel)
  have f29 := hts (.fieldLink RX4 29 "UncertainBook$Inputs" "readings" "[[I") (by decide +kernel)
  have iX4 : ∀ w ∈ u_ws RX4 TX4 9, w ∈ wsX4_addReading := by decide +kernel
  refine w_q (fun Q hQ => ?_)
  unfold fX4_addReading at h
  show W p l e rmX4_addReading s m args below meth c s.heap [] 0 0 Q (F0 m 0 ls [])
  have BH_31 : ∀ (Iestimates : Nat → Int32) (Ivariances : Nat → Int32) (Isorts : Nat → Int32) (Icounts : Nat → Int32) (Ireadings : Nat → Nat → Int32), BX4_addReading_31 v1 v2 Iestimates Ivariances Isorts Icounts Ireadings = some (r, RIestimates, RIvariances, RIsorts, RIcounts, RIreadings) → ∀ (H : Heap) (locs : List Loc) (ls : Array Slot), va_P D vwCl (wI k aI Iestimates Ivariances Isorts Iwidths Icounts Ireadings Ifirsts Iseconds Icovariances) H → va_D A (wI k aI Iestimates Ivariances Isorts Iwidths Icounts Ireadings Ifirsts Iseconds Icovariances) → va_S A s.heap H locs → lv_has ls 4 [(0, .ref (aI 0)), (1, .int v1)] → W p l e rmX4_addReading s m args below meth c H locs 0 0 Q (F0 m 31 ls []) := by
    intro  Iestimates Ivariances Isorts Icounts Ireadings h H locs ls hP hD hS hl
    unfold BX4_addReading_31 at h
    refine lv_aload_n hx hb dX4_addReading_31 rfl (lv_at hl 0 rfl) ?_
    refine va_get (D := D) (ci := 4) (v := .ref (aI 3)) (C := RX4) (T := TX4) (N := 9) hx hb hts iX4 hown hK hP 0 rfl rfl 2 (by decide) f18 (fun _ h9 => h9) rfl dX4_addReading_32 ?_
    refine lv_iload_n hx hb dX4_addReading_35 rfl (lv_at hl 1 rfl) ?_
    refine lv_iconst (v := 4) hx hb dX4_addReading_36 (by decide) ?_
    obtain ⟨hi3, h⟩ := gi_inv h
    refine va_iast hx hb hK hP hD hS 3 0 rfl rfl hi3 dX4_addReading_37 (fun H locs hP hD hS => ?_)
    replace hP : va_P D vwCl (wI k aI Iestimates Ivariances (upd Isorts (v1.toNatClampNeg) 4) Iwidths Icounts Ireadings Ifirsts Iseconds Icovariances) H := hP
    replace hD : va_D A (wI k aI Iestimates Ivariances (upd Isorts (v1.toNatClampNeg) 4) Iwidths Icounts Ireadings Ifirsts Iseconds Icovariances) := hD
    refine lv_aload_n hx hb dX4_addReading_38 rfl (lv_at hl 0 rfl) ?_
    refine lv_iload_n hx hb dX4_addReading_39 rfl (lv_at hl 1 rfl) ?_
    obtain ⟨estimates_4, variances_4, hc4, h⟩ := bnd2_inv h
    have hFc := va_free (wc := (wI k aI Iestimates Ivariances (upd Isorts (v1.toNatClampNeg) 4) Iwidths Icounts Ireadings Ifirsts Iseconds Icovariances)) hD hS hA [0, 1, 2, 3, 4, 5, 6, 7, 8, 9, 10, 11, 12, 13, 14, 15, 16, 17, 18, 19, 20, 21] rfl
    refine xc_v (va_runV (As := [.int v1]) (rest := []) ⟨hx, hb, hml, hown, hts⟩ (met_X4_reckonReadings l D k  aI H.size Iestimates Ivariances (upd Isorts (v1.toNatClampNeg) 4) Iwidths Icounts Ireadings Ifirsts Iseconds Icovariances v1 estimates_4 variances_4 hc4) (cwV 1 hts gX4_addReading_X4_reckonReadings rfl rfl rfl (by decide +kernel) ⟨Nat.le_of_ble_eq_true rfl, Nat.le_of_ble_eq_true rfl⟩) ⟨pw_blind, va_recv hK hP (ci := 4) (q0 := 0) rfl rfl, pw_start hP hK hD⟩ rfl rfl hl.1 rfl (lv_room (Nat.le_of_ble_eq_true rfl)) dX4_addReading_40 ⟨Nat.zero_le _, Nat.zero_le _⟩) hS hFc (fun H1 locs hP1 hD1 hk1 hS => ?_)
    obtain ⟨hP, hD⟩ := vj_all hFc hP1 hD1
    clear hP1 hD1 hk1 hFc
    generalize H1 = H at hP hS ⊢
    refine lv_aload_n hx hb dX4_addReading_43 rfl (lv_at hl 0 rfl) ?_
    refine va_get (D := D) (ci := 4) (v := .ref (aI 2)) (C := RX4) (T := TX4) (N := 9) hx hb hts iX4 hown hK hP 0 rfl rfl 1 (by decide) f15 (fun _ h9 => h9) rfl dX4_addReading_44 ?_
    refine lv_iload_n hx hb dX4_addReading_47 rfl (lv_at hl 1 rfl) ?_
    obtain ⟨hi5, h⟩ := gi_inv h
    refine va_iald hx hb hK hP 2 0 rfl rfl hi5 dX4_addReading_48 ?_
    have hP9 := hP
    have hD9 := hD
    have hS9 := hS
    subst hQ
    cases h
    exact W.iret hx hb hr (fun t ht hW => ⟨⟨_, (), rfl, rfl, by rw [ht]; exact hP9, va_K.moved hW.alike hK, hD9⟩, hS9.F ht⟩) hS9.2.2 dX4_addReading_49
  suffices main : ∀ (H : Heap) (locs : List Loc) (ls : Array Slot), va_P D vwCl (wI k aI Iestimates Ivariances Isorts Iwidths Icounts Ireadings Ifirsts Iseconds Icovariances) H → va_D A (wI k aI Iestimates Ivariances Isorts Iwidths Icounts Ireadings Ifirsts Iseconds Icovariances) → va_S A s.heap H locs → lv_has ls 4 [(0, .ref (aI 0)), (1, .int v1), (2, .int v2)] → W p l e rmX4_addReading s m args below meth c H locs 0 0 Q (F0 m 0 ls []) from main _ _ _ hP hD hS hl
  clear hP hD hS hl ls hAe
  intro H locs ls hP hD hS hl
  refine lv_aload_n hx hb dX4_addReading_0 rfl (lv_at hl 0 rfl) ?_
  refine va_get (D := D) (ci := 4) (v := .ref (aI 5)) (C := RX4) (T := TX4) (N := 9) hx hb hts iX4 hown hK hP 0 rfl rfl 4 (by decide) f24 (fun _ h9 => h9) rfl dX4_addReading_1 ?_
  refine lv_iload_n hx hb dX4_addReading_4 rfl (lv_at hl 1 rfl) ?_
  obtain ⟨hi1, h⟩ := gi_inv h
  refine va_iald hx hb hK hP 5 0 rfl rfl hi1 dX4_addReading_5 ?_
  refine lv_istore_n (lv' := [(3, .int (Icounts v1.toNatClampNeg)), (0, .ref (aI 0)), (1, .int v1), (2, .int v2)]) hx hb dX4_addReading_6 rfl hl (by decide) rfl (fun ls hl => ?_)
  refine lv_iload_n hx hb dX4_addReading_7 rfl (lv_at hl 0 rfl) ?_
  refine lv_bipush (v := 8) hx hb dX4_addReading_8 (by decide) ?_
  refine lv_icmp_ge (tgt := 31) hx hb dX4_addReading_10 (by decide) (fun c2 => ?_) (fun c2 => ?_)
  · replace h := sf_t c2 h
    exact BH_31  _ _ _ _ _ h _ _ _ hP hD hS (lv_sub hl [1, 2] rfl)
  · replace h := sf_f c2 h
    refine lv_aload_n hx hb dX4_addReading_13 rfl (lv_at hl 1 rfl) ?_
    refine va_get (D := D) (ci := 4) (v := .ref (aI 6)) (C := RX4) (T := TX4) (N := 9) hx hb hts iX4 hown hK hP 0 rfl rfl 5 (by decide) f29 (fun _ h9 => h9) rfl dX4_addReading_14 ?_
    refine lv_iload_n hx hb dX4_addReading_17 rfl (lv_at hl 2 rfl) ?_
    obtain ⟨hi6, h⟩ := gi_inv h
    have hj6 : v1.toNatClampNeg < 6 := vp_lt hi6
    refine va_alda (v := aI (7 + v1.toNatClampNeg)) hx hb hK hP 6 4 rfl rfl hi6 (by rw [if_pos hj6]) dX4_addReading_18 ?_
    refine lv_iload_n hx hb dX4_addReading_19 rfl (lv_at hl 0 rfl) ?_
    refine lv_iload_n hx hb dX4_addReading_20 rfl (lv_at hl 3 rfl) ?_
    obtain ⟨hi7, h⟩ := gi_inv h
    have hrow : ∀ (M9 : Nat → Nat → Int32) (j : Nat), j < 6 → (wI k aI Iestimates Ivariances Isorts Iwidths Icounts M9 Ifirsts Iseconds Icovariances)[7 + j]? = some (aI (7 + j), .inl (k 0, 8, .inl (M9 j))) := fun M9 j hj => by rcases (show j = 0 ∨ j = 1 ∨ j = 2 ∨ j = 3 ∨ j = 4 ∨ j = 5 by omega) with rfl | rfl | rfl | rfl | rfl | rfl <;> rfl
    have hset : ∀ (M9 : Nat → Nat → Int32) (y9 : Nat) (x9 : Int32) (j : Nat), j < 6 → (wI k aI Iestimates Ivariances Isorts Iwidths Icounts M9 Ifirsts Iseconds Icovariances).set (7 + j) (aI (7 + j), .inl (k 0, 8, .inl (upd (M9 j) y9 x9))) = (wI k aI Iestimates Ivariances Isorts Iwidths Icounts (upd2 M9 j y9 x9) Ifirsts Iseconds Icovariances) := fun M9 y9 x9 j hj => by rcases (show j = 0 ∨ j = 1 ∨ j = 2 ∨ j = 3 ∨ j = 4 ∨ j = 5 by omega) with rfl | rfl | rfl | rfl | rfl | rfl <;> rfl
    refine va_iast hx hb hK hP hD hS (7 + v1.toNatClampNeg) 0 (hrow _ _ hj6) rfl hi7 dX4_addReading_21 (fun H locs hP hD hS => ?_)
    rw [hset _ _ _ _ hj6] at hP hD
    clear hset hrow
    refine lv_aload_n hx hb dX4_addReading_22 rfl (lv_at hl 1 rfl) ?_
    refine va_get (D := D) (ci := 4) (v := .ref (aI 5)) (C := RX4) (T := TX4) (N := 9) hx hb hts iX4 hown hK hP 0 rfl rfl 4 (by decide) f24 (fun _ h9 => h9) rfl dX4_addReading_23 ?_
    refine lv_iload_n hx hb dX4_addReading_26 rfl (lv_at hl 2 rfl) ?_
    refine lv_iload_n hx hb dX4_addReading_27 rfl (lv_at hl 0 rfl) ?_
    refine lv_iconst (v := 1) hx hb dX4_addReading_28 (by decide) ?_
    refine lv_iadd hx hb dX4_addReading_29 ?_
    obtain ⟨hi8, h⟩ := gi_inv h
    refine va_iast hx hb hK hP hD hS 5 0 rfl rfl hi8 dX4_addReading_30 (fun H locs hP hD hS => ?_)
    replace hP : va_P D vwCl (wI k aI Iestimates Ivariances Isorts Iwidths (upd Icounts (v1.toNatClampNeg) ((Icounts v1.toNatClampNeg) + 1)) (upd2 Ireadings (v1.toNatClampNeg) ((Icounts v1.toNatClampNeg).toNatClampNeg) v2) Ifirsts Iseconds Icovariances) H := hP
    replace hD : va_D A (wI k aI Iestimates Ivariances Isorts Iwidths (upd Icounts (v1.toNatClampNeg) ((Icounts v1.toNatClampNeg) + 1)) (upd2 Ireadings (v1.toNatClampNeg) ((Icounts v1.toNatClampNeg).toNatClampNeg) v2) Ifirsts Iseconds Icovariances) := hD
    exact BH_31  _ _ _ _ _ h _ _ _ hP hD hS (lv_sub hl [1, 2] rfl)
def fX4_degreesOf (v1 : Int32) (Icounts : Nat → Int32) : Option (Int32) := gi v1 6 ((if (Icounts v1.toNatClampNeg) ≤ 1 then some (0) else gi v1 6 (some ((Icounts v1.toNatClampNeg) - 1))))
abbrev rmX4_degreesOf : Room := { frames := 0, cells := 0, slots := 0, locals := 0 }
set_option maxHeartbeats 4000000 in
set_option maxRecDepth 100000 in
theorem met_X4_degreesOf (l : Launch) (D : va_G) (k : Nat → ClassId)  (aI : Nat → Nat) (sz : Nat) (Iestimates : Nat → Int32) (Ivariances : Nat → Int32) (Isorts : Nat → Int32) (Iwidths : Nat → Int32) (Icounts : Nat → Int32) (Ireadings : Nat → Nat → Int32) (Ifirsts : Nat → Int32) (Iseconds : Nat → Int32) (Icovariances : Nat → Nat → Int32) (v1 : Int32) (r : Int32) (h : fX4_degreesOf v1 Icounts = some r) : Met l yX4_degreesOf wsX4_degreesOf rmX4_degreesOf (va_Pc [.ref (aI 0), .int v1] (PreW D k (wI k aI Iestimates Ivariances Isorts Iwidths Icounts Ireadings Ifirsts Iseconds Icovariances) sz)) (va_Qi (fun r9 (_ : Unit) => r9 = r) (fun _ t => PostW D k (va_A (wI k aI Iestimates Ivariances Isorts Iwidths Icounts Ireadings Ifirsts Iseconds Icovariances) sz) (wI k aI Iestimates Ivariances Isorts Iwidths Icounts Ireadings Ifirsts Iseconds Icovariances) t) (va_A (wI k aI Iestimates Ivariances Isorts Iwidths Icounts Ireadings Ifirsts Iseconds Icovariances) sz)) 0 0 (va_A (wI k aI Iestimates Ivariances Isorts Iwidths Icounts Ireadings Ifirsts Iseconds Icovariances) sz) := by
  refine Met.ofW (cc := cX4_degreesOf) (maxL := 2) (ret := (some .int)) (by decide) rfl ?_
  intro p e s m args below meth c s₁ B hml hv
  obtain ⟨hav, hsz, hP, hK, hD0⟩ := hv
  have hx := B.exec
  have hb := B.bytes
  have hr := B.returns
  have hts := atoms_spec (ws := wsX4_degreesOf) B.pre
  have hown : s.vm.findClass RX4 = some m.cls := findClass_of_methodNamed B.named
  have hlocks := B.notSynchronized
  subst hsz
  have hD := hD0.self (sz := s.heap.size)
  clear hD0
  generalize hAe : va_A (wI k aI Iestimates Ivariances Isorts Iwidths Icounts Ireadings Ifirsts Iseconds Icovariances) s.heap.size = A at hD ⊢
  have hA : ∀ q : Nat, s.heap.size ≤ q → A q := fun q h => by rw [← hAe]; exact Or.inr h
  have hS : va_S A s.heap s.heap [] := va_S.rf
  have hl := lv_entry ([.ref (aI 0), .int v1]) (n := 2) (Nat.le_of_ble_eq_true rfl)
  rw [show entryFrame m args 2 = entryFrame m ([.ref (aI 0), .int v1] : List Value).toArray 2 from by rw [hav], lg_entry_eq]
  generalize (lg_sl ([.ref (aI 0), .int v1]) ++ List.replicate (2 - (lg_sl ([.ref (aI 0), .int v1])).length) Slot.unset).toArray = ls at hl ⊢
  replace hl : lv_has ls 2 [(0, .ref (aI 0)), (1, .int v1)] := hl
  have f24 := hts (.fieldLink RX4 24 "UncertainBook$Inputs" "counts" "[I") (by decide +kernel)
  have iX4 : ∀ w ∈ u_ws RX4 TX4 9, w ∈ wsX4_degreesOf := by decide +kernel
  refine w_q (fun Q hQ => ?_)
  unfold fX4_degreesOf at h
  show W p l e rmX4_degreesOf s m args below meth c s.heap [] 0 0 Q (F0 m 0 ls [])
  suffices main : ∀ (H : Heap) (locs : List Loc) (ls : Array Slot), va_P D vwCl (wI k aI Iestimates Ivariances Isorts Iwidths Icounts Ireadings Ifirsts Iseconds Icovariances) H → va_D A (wI k aI Iestimates Ivariances Isorts Iwidths Icounts Ireadings Ifirsts Iseconds Icovariances) → va_S A s.heap H locs → lv_has ls 2 [(0, .ref (aI 0)), (1, .int v1)] → W p l e rmX4_degreesOf s m args below meth c H locs 0 0 Q (F0 m 0 ls []) from main _ _ _ hP hD hS hl
  clear hP hD hS hl ls hAe
  intro H locs ls hP hD hS hl
  refine lv_aload_n hx hb dX4_degreesOf_0 rfl (lv_at hl 0 rfl) ?_
  refine va_get (D := D) (ci := 4) (v := .ref (aI 5)) (C := RX4) (T := TX4) (N := 9) hx hb hts iX4 hown hK hP 0 rfl rfl 4 (by decide) f24 (fun _ h9 => h9) rfl dX4_degreesOf_1 ?_
  refine lv_iload_n hx hb dX4_degreesOf_4 rfl (lv_at hl 1 rfl) ?_
  obtain ⟨hi1, h⟩ := gi_inv h
  refine va_iald hx hb hK hP 5 0 rfl rfl hi1 dX4_degreesOf_5 ?_
  refine lv_iconst (v := 1) hx hb dX4_degreesOf_6 (by decide) ?_
  refine lv_icmp_le (tgt := 21) hx hb dX4_degreesOf_7 (by decide) (fun c2 => ?_) (fun c2 => ?_)
  · replace h := sf_t c2 h
    refine lv_iconst (v := 0) hx hb dX4_degreesOf_21 (by decide) ?_
    have hP9 := hP
    have hD9 := hD
    have hS9 := hS
    subst hQ
    cases h
    exact W.iret hx hb hr (fun t ht hW => ⟨⟨_, (), rfl, rfl, by rw [ht]; exact hP9, va_K.moved hW.alike hK, hD9⟩, hS9.F ht⟩) hS9.2.2 dX4_degreesOf_22
  · replace h := sf_f c2 h
    refine lv_aload_n hx hb dX4_degreesOf_10 rfl (lv_at hl 0 rfl) ?_
    refine va_get (D := D) (ci := 4) (v := .ref (aI 5)) (C := RX4) (T := TX4) (N := 9) hx hb hts iX4 hown hK hP 0 rfl rfl 4 (by decide) f24 (fun _ h9 => h9) rfl dX4_degreesOf_11 ?_
    refine lv_iload_n hx hb dX4_degreesOf_14 rfl (lv_at hl 1 rfl) ?_
    obtain ⟨hi3, h⟩ := gi_inv h
    refine va_iald hx hb hK hP 5 0 rfl rfl hi3 dX4_degreesOf_15 ?_
    refine lv_iconst (v := 1) hx hb dX4_degreesOf_16 (by decide) ?_
    refine lv_isub hx hb dX4_degreesOf_17 ?_
    refine lv_goto (tgt := 22) hx hb dX4_degreesOf_18 (by decide) ?_
    have hP9 := hP
    have hD9 := hD
    have hS9 := hS
    subst hQ
    cases h
    exact W.iret hx hb hr (fun t ht hW => ⟨⟨_, (), rfl, rfl, by rw [ht]; exact hP9, va_K.moved hW.alike hK, hD9⟩, hS9.F ht⟩) hS9.2.2 dX4_degreesOf_22
def fX4_widthOrCount (v1 : Int32) (Isorts : Nat → Int32) (Iwidths : Nat → Int32) (Icounts : Nat → Int32) : Option (Int32) := gi v1 6 ((if (Isorts v1.toNatClampNeg) = 4 then gi v1 6 (some (Icounts v1.toNatClampNeg)) else gi v1 6 (some (Iwidths v1.toNatClampNeg))))
abbrev rmX4_widthOrCount : Room := { frames := 0, cells := 0, slots := 0, locals := 0 }
set_option maxHeartbeats 4000000 in
set_option maxRecDepth 100000 in
theorem met_X4_widthOrCount (l : Launch) (D : va_G) (k : Nat → ClassId)  (aI : Nat → Nat) (sz : Nat) (Iestimates : Nat → Int32) (Ivariances : Nat → Int32) (Isorts : Nat → Int32) (Iwidths : Nat → Int32) (Icounts : Nat → Int32) (Ireadings : Nat → Nat → Int32) (Ifirsts : Nat → Int32) (Iseconds : Nat → Int32) (Icovariances : Nat → Nat → Int32) (v1 : Int32) (r : Int32) (h : fX4_widthOrCount v1 Isorts Iwidths Icounts = some r) : Met l yX4_widthOrCount wsX4_widthOrCount rmX4_widthOrCount (va_Pc [.ref (aI 0), .int v1] (PreW D k (wI k aI Iestimates Ivariances Isorts Iwidths Icounts Ireadings Ifirsts Iseconds Icovariances) sz)) (va_Qi (fun r9 (_ : Unit) => r9 = r) (fun _ t => PostW D k (va_A (wI k aI Iestimates Ivariances Isorts Iwidths Icounts Ireadings Ifirsts Iseconds Icovariances) sz) (wI k aI Iestimates Ivariances Isorts Iwidths Icounts Ireadings Ifirsts Iseconds Icovariances) t) (va_A (wI k aI Iestimates Ivariances Isorts Iwidths Icounts Ireadings Ifirsts Iseconds Icovariances) sz)) 0 0 (va_A (wI k aI Iestimates Ivariances Isorts Iwidths Icounts Ireadings Ifirsts Iseconds Icovariances) sz) := by
  refine Met.ofW (cc := cX4_widthOrCount) (maxL := 2) (ret := (some .int)) (by decide) rfl ?_
  intro p e s m args below meth c s₁ B hml hv
  obtain ⟨hav, hsz, hP, hK, hD0⟩ := hv
  have hx := B.exec
  have hb := B.bytes
  have hr := B.returns
  have hts := atoms_spec (ws := wsX4_widthOrCount) B.pre
  have hown : s.vm.findClass RX4 = some m.cls := findClass_of_methodNamed B.named
  have hlocks := B.notSynchronized
  subst hsz
  have hD := hD0.self (sz := s.heap.size)
  clear hD0
  generalize hAe : va_A (wI k aI Iestimates Ivariances Isorts Iwidths Icounts Ireadings Ifirsts Iseconds Icovariances) s.heap.size = A at hD ⊢
  have hA : ∀ q : Nat, s.heap.size ≤ q → A q := fun q h => by rw [← hAe]; exact Or.inr h
  have hS : va_S A s.heap s.heap [] := va_S.rf
  have hl := lv_entry ([.ref (aI 0), .int v1]) (n := 2) (Nat.le_of_ble_eq_true rfl)
  rw [show entryFrame m args 2 = entryFrame m ([.ref (aI 0), .int v1] : List Value).toArray 2 from by rw [hav], lg_entry_eq]
  generalize (lg_sl ([.ref (aI 0), .int v1]) ++ List.replicate (2 - (lg_sl ([.ref (aI 0), .int v1])).length) Slot.unset).toArray = ls at hl ⊢
  replace hl : lv_has ls 2 [(0, .ref (aI 0)), (1, .int v1)] := hl
  have f18 := hts (.fieldLink RX4 18 "UncertainBook$Inputs" "sorts" "[I") (by decide +kernel)
  have f21 := hts (.fieldLink RX4 21 "UncertainBook$Inputs" "widths" "[I") (by decide +kernel)
  have f24 := hts (.fieldLink RX4 24 "UncertainBook$Inputs" "counts" "[I") (by decide +kernel)
  have iX4 : ∀ w ∈ u_ws RX4 TX4 9, w ∈ wsX4_widthOrCount := by decide +kernel
  refine w_q (fun Q hQ => ?_)
  unfold fX4_widthOrCount at h
  show W p l e rmX4_widthOrCount s m args below meth c s.heap [] 0 0 Q (F0 m 0 ls [])
  suffices main : ∀ (H : Heap) (locs : List Loc) (ls : Array Slot), va_P D vwCl (wI k aI Iestimates Ivariances Isorts Iwidths Icounts Ireadings Ifirsts Iseconds Icovariances) H → va_D A (wI k aI Iestimates Ivariances Isorts Iwidths Icounts Ireadings Ifirsts Iseconds Icovariances) → va_S A s.heap H locs → lv_has ls 2 [(0, .ref (aI 0)), (1, .int v1)] → W p l e rmX4_widthOrCount s m args below meth c H locs 0 0 Q (F0 m 0 ls []) from main _ _ _ hP hD hS hl
  clear hP hD hS hl ls hAe
  intro H locs ls hP hD hS hl
  refine lv_aload_n hx hb dX4_widthOrCount_0 rfl (lv_at hl 0 rfl) ?_
  refine va_get (D := D) (ci := 4) (v := .ref (aI 3)) (C := RX4) (T := TX4) (N := 9) hx hb hts iX4 hown hK hP 0 rfl rfl 2 (by decide) f18 (fun _ h9 => h9) rfl dX4_widthOrCount_1 ?_
  refine lv_iload_n hx hb dX4_widthOrCount_4 rfl (lv_at hl 1 rfl) ?_
  obtain ⟨hi1, h⟩ := gi_inv h
  refine va_iald hx hb hK hP 3 0 rfl rfl hi1 dX4_widthOrCount_5 ?_
  refine lv_iconst (v := 4) hx hb dX4_widthOrCount_6 (by decide) ?_
  refine lv_icmp_ne (tgt := 19) hx hb dX4_widthOrCount_7 (by decide) (fun c2 => ?_) (fun c2 => ?_)
  · replace h := sf_f c2 h
    refine lv_aload_n hx hb dX4_widthOrCount_19 rfl (lv_at hl 0 rfl) ?_
    refine va_get (D := D) (ci := 4) (v := .ref (aI 4)) (C := RX4) (T := TX4) (N := 9) hx hb hts iX4 hown hK hP 0 rfl rfl 3 (by decide) f21 (fun _ h9 => h9) rfl dX4_widthOrCount_20 ?_
    refine lv_iload_n hx hb dX4_widthOrCount_23 rfl (lv_at hl 1 rfl) ?_
    obtain ⟨hi3, h⟩ := gi_inv h
    refine va_iald hx hb hK hP 4 0 rfl rfl hi3 dX4_widthOrCount_24 ?_
    have hP9 := hP
    have hD9 := hD
    have hS9 := hS
    subst hQ
    cases h
    exact W.iret hx hb hr (fun t ht hW => ⟨⟨_, (), rfl, rfl, by rw [ht]; exact hP9, va_K.moved hW.alike hK, hD9⟩, hS9.F ht⟩) hS9.2.2 dX4_widthOrCount_25
  · replace h := sf_t c2 h
    refine lv_aload_n hx hb dX4_widthOrCount_10 rfl (lv_at hl 0 rfl) ?_
    refine va_get (D := D) (ci := 4) (v := .ref (aI 5)) (C := RX4) (T := TX4) (N := 9) hx hb hts iX4 hown hK hP 0 rfl rfl 4 (by decide) f24 (fun _ h9 => h9) rfl dX4_widthOrCount_11 ?_
    refine lv_iload_n hx hb dX4_widthOrCount_14 rfl (lv_at hl 1 rfl) ?_
    obtain ⟨hi4, h⟩ := gi_inv h
    refine va_iald hx hb hK hP 5 0 rfl rfl hi4 dX4_widthOrCount_15 ?_
    refine lv_goto (tgt := 25) hx hb dX4_widthOrCount_16 (by decide) ?_
    have hP9 := hP
    have hD9 := hD
    have hS9 := hS
    subst hQ
    cases h
    exact W.iret hx hb hr (fun t ht hW => ⟨⟨_, (), rfl, rfl, by rw [ht]; exact hP9, va_K.moved hW.alike hK, hD9⟩, hS9.F ht⟩) hS9.2.2 dX4_widthOrCount_25
def fX4_tellCovariance (v1 : Int32) (v2 : Int32) (v3 : Int32) (Icovariances : Nat → Nat → Int32) : Option (Int32 × (Nat → Nat → Int32)) := gi v1 6 (gi v2 6 (gi v1 6 (gi v2 6 (gi v2 6 (gi v1 6 (some (Icovariances (v1.toNatClampNeg) v2.toNatClampNeg, upd2 (upd2 Icovariances (v1.toNatClampNeg) (v2.toNatClampNeg) v3) (v2.toNatClampNeg) (v1.toNatClampNeg) v3)))))))
abbrev rmX4_tellCovariance : Room := { frames := 0, cells := 0, slots := 0, locals := 0 }
set_option maxHeartbeats 4000000 in
set_option maxRecDepth 100000 in
theorem met_X4_tellCovariance (l : Launch) (D : va_G) (k : Nat → ClassId)  (aI : Nat → Nat) (sz : Nat) (Iestimates : Nat → Int32) (Ivariances : Nat → Int32) (Isorts : Nat → Int32) (Iwidths : Nat → Int32) (Icounts : Nat → Int32) (Ireadings : Nat → Nat → Int32) (Ifirsts : Nat → Int32) (Iseconds : Nat → Int32) (Icovariances : Nat → Nat → Int32) (v1 : Int32) (v2 : Int32) (v3 : Int32) (r : Int32) (RIcovariances : Nat → Nat → Int32) (h : fX4_tellCovariance v1 v2 v3 Icovariances = some (r, RIcovariances)) : Met l yX4_tellCovariance wsX4_tellCovariance rmX4_tellCovariance (va_Pc [.ref (aI 0), .int v1, .int v2, .int v3] (PreW D k (wI k aI Iestimates Ivariances Isorts Iwidths Icounts Ireadings Ifirsts Iseconds Icovariances) sz)) (va_Qi (fun r9 (_ : Unit) => r9 = r) (fun _ t => PostW D k (va_A (wI k aI Iestimates Ivariances Isorts Iwidths Icounts Ireadings Ifirsts Iseconds Icovariances) sz) (wI k aI Iestimates Ivariances Isorts Iwidths Icounts Ireadings Ifirsts Iseconds RIcovariances) t) (va_A (wI k aI Iestimates Ivariances Isorts Iwidths Icounts Ireadings Ifirsts Iseconds Icovariances) sz)) 0 0 (va_A (wI k aI Iestimates Ivariances Isorts Iwidths Icounts Ireadings Ifirsts Iseconds Icovariances) sz) := by
  refine Met.ofW (cc := cX4_tellCovariance) (maxL := 5) (ret := (some .int)) (by decide) rfl ?_
  intro p e s m args below meth c s₁ B hml hv
  obtain ⟨hav, hsz, hP, hK, hD0⟩ := hv
  have hx := B.exec
  have hb := B.bytes
  have hr := B.returns
  have hts := atoms_spec (ws := wsX4_tellCovariance) B.pre
  have hown : s.vm.findClass RX4 = some m.cls := findClass_of_methodNamed B.named
  have hlocks := B.notSynchronized
  subst hsz
  have hD := hD0.self (sz := s.heap.size)
  clear hD0
  generalize hAe : va_A (wI k aI Iestimates Ivariances Isorts Iwidths Icounts Ireadings Ifirsts Iseconds Icovariances) s.heap.size = A at hD ⊢
  have hA : ∀ q : Nat, s.heap.size ≤ q → A q := fun q h => by rw [← hAe]; exact Or.inr h
  have hS : va_S A s.heap s.heap [] := va_S.rf
  have hl := lv_entry ([.ref (aI 0), .int v1, .int v2, .int v3]) (n := 5) (Nat.le_of_ble_eq_true rfl)
  rw [show entryFrame m args 5 = entryFrame m ([.ref (aI 0), .int v1, .int v2, .int v3] : List Value).toArray 5 from by rw [hav], lg_entry_eq]
  generalize (lg_sl ([.ref (aI 0), .int v1, .int v2, .int v3]) ++ List.replicate (5 - (lg_sl ([.ref (aI 0), .int v1, .int v2, .int v3])).length) Slot.unset).toArray = ls at hl ⊢
  replace hl : lv_has ls 5 [(0, .ref (aI 0)), (1, .int v1), (2, .int v2), (3, .int v3)] := hl
  have f38 := hts (.fieldLink RX4 38 "UncertainBook$Inputs" "covariances" "[[I") (by decide +kernel)
  have iX4 : ∀ w ∈ u_ws RX4 TX4 9, w ∈ wsX4_tellCovariance := by decide +kernel
  refine w_q (fun Q hQ => ?_)
  unfold fX4_tellCovariance at h
  show W p l e rmX4_tellCovariance s m args below meth c s.heap [] 0 0 Q (F0 m 0 ls [])
  suffices main : ∀ (H : Heap) (locs : List Loc) (ls : Array Slot), va_P D vwCl (wI k aI Iestimates Ivariances Isorts Iwidths Icounts Ireadings Ifirsts Iseconds Icovariances) H → va_D A (wI k aI Iestimates Ivariances Isorts Iwidths Icounts Ireadings Ifirsts Iseconds Icovariances) → va_S A s.heap H locs → lv_has ls 5 [(0, .ref (aI 0)), (1, .int v1), (2, .int v2), (3, .int v3)] → W p l e rmX4_tellCovariance s m args below meth c H locs 0 0 Q (F0 m 0 ls []) from main _ _ _ hP hD hS hl
  clear hP hD hS hl ls hAe
  intro H locs ls hP hD hS hl
  refine lv_aload_n hx hb dX4_tellCovariance_0 rfl (lv_at hl 0 rfl) ?_
  refine va_get (D := D) (ci := 4) (v := .ref (aI 15)) (C := RX4) (T := TX4) (N := 9) hx hb hts iX4 hown hK hP 0 rfl rfl 8 (by decide) f38 (fun _ h9 => h9) rfl dX4_tellCovariance_1 ?_
  refine lv_iload_n hx hb dX4_tellCovariance_4 rfl (lv_at hl 1 rfl) ?_
  obtain ⟨hi1, h⟩ := gi_inv h
  have hj1 : v1.toNatClampNeg < 6 := vp_lt hi1
  refine va_alda (v := aI (16 + v1.toNatClampNeg)) hx hb hK hP 15 4 rfl rfl hi1 (by rw [if_pos hj1]) dX4_tellCovariance_5 ?_
  refine lv_iload_n hx hb dX4_tellCovariance_6 rfl (lv_at hl 2 rfl) ?_
  obtain ⟨hi2, h⟩ := gi_inv h
  have hrow : ∀ (M9 : Nat → Nat → Int32) (j : Nat), j < 6 → (wI k aI Iestimates Ivariances Isorts Iwidths Icounts Ireadings Ifirsts Iseconds M9)[16 + j]? = some (aI (16 + j), .inl (k 0, 6, .inl (M9 j))) := fun M9 j hj => by rcases (show j = 0 ∨ j = 1 ∨ j = 2 ∨ j = 3 ∨ j = 4 ∨ j = 5 by omega) with rfl | rfl | rfl | rfl | rfl | rfl <;> rfl
  refine va_iald hx hb hK hP (16 + v1.toNatClampNeg) 0 (hrow _ _ hj1) rfl hi2 dX4_tellCovariance_7 ?_
  clear hrow
  refine lv_istore (lv' := [(4, .int (Icovariances (v1.toNatClampNeg) v2.toNatClampNeg)), (0, .ref (aI 0)), (1, .int v1), (2, .int v2), (3, .int v3)]) hx hb dX4_tellCovariance_8 hl (by decide) rfl (fun ls hl => ?_)
  refine lv_aload_n hx hb dX4_tellCovariance_10 rfl (lv_at hl 1 rfl) ?_
  refine va_get (D := D) (ci := 4) (v := .ref (aI 15)) (C := RX4) (T := TX4) (N := 9) hx hb hts iX4 hown hK hP 0 rfl rfl 8 (by decide) f38 (fun _ h9 => h9) rfl dX4_tellCovariance_11 ?_
  refine lv_iload_n hx hb dX4_tellCovariance_14 rfl (lv_at hl 2 rfl) ?_
  obtain ⟨hi3, h⟩ := gi_inv h
  have hj3 : v1.toNatClampNeg < 6 := vp_lt hi3
  refine va_alda (v := aI (16 + v1.toNatClampNeg)) hx hb hK hP 15 4 rfl rfl hi3 (by rw [if_pos hj3]) dX4_tellCovariance_15 ?_
  refine lv_iload_n hx hb dX4_tellCovariance_16 rfl (lv_at hl 3 rfl) ?_
  refine lv_iload_n hx hb dX4_tellCovariance_17 rfl (lv_at hl 4 rfl) ?_
  obtain ⟨hi4, h⟩ := gi_inv h
  have hrow : ∀ (M9 : Nat → Nat → Int32) (j : Nat), j < 6 → (wI k aI Iestimates Ivariances Isorts Iwidths Icounts Ireadings Ifirsts Iseconds M9)[16 + j]? = some (aI (16 + j), .inl (k 0, 6, .inl (M9 j))) := fun M9 j hj => by rcases (show j = 0 ∨ j = 1 ∨ j = 2 ∨ j = 3 ∨ j = 4 ∨ j = 5 by omega) with rfl | rfl | rfl | rfl | rfl | rfl <;> rfl
  have hset : ∀ (M9 : Nat → Nat → Int32) (y9 : Nat) (x9 : Int32) (j : Nat), j < 6 → (wI k aI Iestimates Ivariances Isorts Iwidths Icounts Ireadings Ifirsts Iseconds M9).set (16 + j) (aI (16 + j), .inl (k 0, 6, .inl (upd (M9 j) y9 x9))) = (wI k aI Iestimates Ivariances Isorts Iwidths Icounts Ireadings Ifirsts Iseconds (upd2 M9 j y9 x9)) := fun M9 y9 x9 j hj => by rcases (show j = 0 ∨ j = 1 ∨ j = 2 ∨ j = 3 ∨ j = 4 ∨ j = 5 by omega) with rfl | rfl | rfl | rfl | rfl | rfl <;> rfl
  refine va_iast hx hb hK hP hD hS (16 + v1.toNatClampNeg) 0 (hrow _ _ hj3) rfl hi4 dX4_tellCovariance_18 (fun H locs hP hD hS => ?_)
  rw [hset _ _ _ _ hj3] at hP hD
  clear hset hrow
  refine lv_aload_n hx hb dX4_tellCovariance_19 rfl (lv_at hl 1 rfl) ?_
  refine va_get (D := D) (ci := 4) (v := .ref (aI 15)) (C := RX4) (T := TX4) (N := 9) hx hb hts iX4 hown hK hP 0 rfl rfl 8 (by decide) f38 (fun _ h9 => h9) rfl dX4_tellCovariance_20 ?_
  refine lv_iload_n hx hb dX4_tellCovariance_23 rfl (lv_at hl 3 rfl) ?_
  obtain ⟨hi5, h⟩ := gi_inv h
  have hj5 : v2.toNatClampNeg < 6 := vp_lt hi5
  refine va_alda (v := aI (16 + v2.toNatClampNeg)) hx hb hK hP 15 4 rfl rfl hi5 (by rw [if_pos hj5]) dX4_tellCovariance_24 ?_
  refine lv_iload_n hx hb dX4_tellCovariance_25 rfl (lv_at hl 2 rfl) ?_
  refine lv_iload_n hx hb dX4_tellCovariance_26 rfl (lv_at hl 4 rfl) ?_
  obtain ⟨hi6, h⟩ := gi_inv h
  have hrow : ∀ (M9 : Nat → Nat → Int32) (j : Nat), j < 6 → (wI k aI Iestimates Ivariances Isorts Iwidths Icounts Ireadings Ifirsts Iseconds M9)[16 + j]? = some (aI (16 + j), .inl (k 0, 6, .inl (M9 j))) := fun M9 j hj => by rcases (show j = 0 ∨ j = 1 ∨ j = 2 ∨ j = 3 ∨ j = 4 ∨ j = 5 by omega) with rfl | rfl | rfl | rfl | rfl | rfl <;> rfl
  have hset : ∀ (M9 : Nat → Nat → Int32) (y9 : Nat) (x9 : Int32) (j : Nat), j < 6 → (wI k aI Iestimates Ivariances Isorts Iwidths Icounts Ireadings Ifirsts Iseconds M9).set (16 + j) (aI (16 + j), .inl (k 0, 6, .inl (upd (M9 j) y9 x9))) = (wI k aI Iestimates Ivariances Isorts Iwidths Icounts Ireadings Ifirsts Iseconds (upd2 M9 j y9 x9)) := fun M9 y9 x9 j hj => by rcases (show j = 0 ∨ j = 1 ∨ j = 2 ∨ j = 3 ∨ j = 4 ∨ j = 5 by omega) with rfl | rfl | rfl | rfl | rfl | rfl <;> rfl
  refine va_iast hx hb hK hP hD hS (16 + v2.toNatClampNeg) 0 (hrow _ _ hj5) rfl hi6 dX4_tellCovariance_27 (fun H locs hP hD hS => ?_)
  rw [hset _ _ _ _ hj5] at hP hD
  clear hset hrow
  refine lv_iload hx hb dX4_tellCovariance_28 (lv_at hl 0 rfl) ?_
  have hP9 := hP
  have hD9 := hD
  have hS9 := hS
  subst hQ
  cases h
  exact W.iret hx hb hr (fun t ht hW => ⟨⟨_, (), rfl, rfl, by rw [ht]; exact hP9, va_K.moved hW.alike hK, hD9⟩, hS9.F ht⟩) hS9.2.2 dX4_tellCovariance_30
def fX4_drawOf (v1 : Int32) (Iestimates : Nat → Int32) (Isorts : Nat → Int32) (Iwidths : Nat → Int32) (Icounts : Nat → Int32) (Ireadings : Nat → Nat → Int32) (Cx : Int32) : Option (Int32 × Int32) := gi v1 6 (gi v1 6 (gi v1 6 ((if (Isorts v1.toNatClampNeg) = 1 then bnd2 (fX1_modulo ((2 * (Iwidths v1.toNatClampNeg)) + 1) Cx) (fun r5 x_5 => some (((Iestimates v1.toNatClampNeg) - (Iwidths v1.toNatClampNeg)) + r5, x_5)) else if (Isorts v1.toNatClampNeg) = 2 then bnd2 (fX1_modulo ((Iwidths v1.toNatClampNeg) + 1) Cx) (fun r7 x_7 => bnd2 (fX1_modulo ((Iwidths v1.toNatClampNeg) + 1) x_7) (fun r8 x_8 => some ((((Iestimates v1.toNatClampNeg) - (Iwidths v1.toNatClampNeg)) + r7) + r8, x_8))) else if (Isorts v1.toNatClampNeg) = 3 then bnd2 (fX1_modulo 2 Cx) (fun r10 x_10 => some (((Iestimates v1.toNatClampNeg) - (Iwidths v1.toNatClampNeg)) + ((2 * (Iwidths v1.toNatClampNeg)) * r10), x_10)) else if (Isorts v1.toNatClampNeg) = 4 then gi v1 6 (gi v1 6 (bnd2 (fX1_modulo (Icounts v1.toNatClampNeg) Cx) (fun r14 x_14 => gi r14 8 (some (Ireadings (v1.toNatClampNeg) r14.toNatClampNeg, x_14))))) else gi v1 6 (some (Iestimates v1.toNatClampNeg, Cx))))))
abbrev rmX4_drawOf : Room := { frames := 1, cells := 0, slots := 0, locals := 21 }
set_option maxHeartbeats 4000000 in
set_option maxRecDepth 100000 in
theorem met_X4_drawOf (l : Launch) (D : va_G) (k : Nat → ClassId)  (aI : Nat → Nat) (aC : Nat → Nat) (sz : Nat) (Iestimates : Nat → Int32) (Ivariances : Nat → Int32) (Isorts : Nat → Int32) (Iwidths : Nat → Int32) (Icounts : Nat → Int32) (Ireadings : Nat → Nat → Int32) (Ifirsts : Nat → Int32) (Iseconds : Nat → Int32) (Icovariances : Nat → Nat → Int32) (Cx : Int32) (v1 : Int32) (r : Int32) (RCx : Int32) (h : fX4_drawOf v1 Iestimates Isorts Iwidths Icounts Ireadings Cx = some (r, RCx)) : Met l yX4_drawOf wsX4_drawOf rmX4_drawOf (va_Pc [.ref (aI 0), .int v1, .ref (aC 0)] (PreW D k ((wI k aI Iestimates Ivariances Isorts Iwidths Icounts Ireadings Ifirsts Iseconds Icovariances) ++ (wC k aC Cx)) sz)) (va_Qi (fun r9 (_ : Unit) => r9 = r) (fun _ t => PostW D k (va_A ((wI k aI Iestimates Ivariances Isorts Iwidths Icounts Ireadings Ifirsts Iseconds Icovariances) ++ (wC k aC Cx)) sz) ((wI k aI Iestimates Ivariances Isorts Iwidths Icounts Ireadings Ifirsts Iseconds Icovariances) ++ (wC k aC RCx)) t) (va_A ((wI k aI Iestimates Ivariances Isorts Iwidths Icounts Ireadings Ifirsts Iseconds Icovariances) ++ (wC k aC Cx)) sz)) 0 0 (va_A ((wI k aI Iestimates Ivariances Isorts Iwidths Icounts Ireadings Ifirsts Iseconds Icovariances) ++ (wC k aC Cx)) sz) := by
  refine Met.ofW (cc := cX4_drawOf) (maxL := 5) (ret := (some .int)) (by decide) rfl ?_
  intro p e s m args below meth c s₁ B hml hv
  obtain ⟨hav, hsz, hP, hK, hD0⟩ := hv
  have hx := B.exec
  have hb := B.bytes
  have hr := B.returns
  have hts := atoms_spec (ws := wsX4_drawOf) B.pre
  have hown : s.vm.findClass RX4 = some m.cls := findClass_of_methodNamed B.named
  have hlocks := B.notSynchronized
  subst hsz
  have hD := hD0.self (sz := s.heap.size)
  clear hD0
  generalize hAe : va_A ((wI k aI Iestimates Ivariances Isorts Iwidths Icounts Ireadings Ifirsts Iseconds Icovariances) ++ (wC k aC Cx)) s.heap.size = A at hD ⊢
  have hA : ∀ q : Nat, s.heap.size ≤ q → A q := fun q h => by rw [← hAe]; exact Or.inr h
  have hS : va_S A s.heap s.heap [] := va_S.rf
  have hl := lv_entry ([.ref (aI 0), .int v1, .ref (aC 0)]) (n := 5) (Nat.le_of_ble_eq_true rfl)
  rw [show entryFrame m args 5 = entryFrame m ([.ref (aI 0), .int v1, .ref (aC 0)] : List Value).toArray 5 from by rw [hav], lg_entry_eq]
  generalize (lg_sl ([.ref (aI 0), .int v1, .ref (aC 0)]) ++ List.replicate (5 - (lg_sl ([.ref (aI 0), .int v1, .ref (aC 0)])).length) Slot.unset).toArray = ls at hl ⊢
  replace hl : lv_has ls 5 [(0, .ref (aI 0)), (1, .int v1), (2, .ref (aC 0))] := hl
  have f9 := hts (.fieldLink RX4 9 "UncertainBook$Inputs" "estimates" "[I") (by decide +kernel)
  have f18 := hts (.fieldLink RX4 18 "UncertainBook$Inputs" "sorts" "[I") (by decide +kernel)
  have f21 := hts (.fieldLink RX4 21 "UncertainBook$Inputs" "widths" "[I") (by decide +kernel)
  have f24 := hts (.fieldLink RX4 24 "UncertainBook$Inputs" "counts" "[I") (by decide +kernel)
  have f29 := hts (.fieldLink RX4 29 "UncertainBook$Inputs" "readings" "[[I") (by decide +kernel)
  have iX4 : ∀ w ∈ u_ws RX4 TX4 9, w ∈ wsX4_drawOf := by decide +kernel
  refine w_q (fun Q hQ => ?_)
  unfold fX4_drawOf at h
  show W p l e rmX4_drawOf s m args below meth c s.heap [] 0 0 Q (F0 m 0 ls [])
  suffices main : ∀ (H : Heap) (locs : List Loc) (ls : Array Slot), va_P D vwCl ((wI k aI Iestimates Ivariances Isorts Iwidths Icounts Ireadings Ifirsts Iseconds Icovariances) ++ (wC k aC Cx)) H → va_D A ((wI k aI Iestimates Ivariances Isorts Iwidths Icounts Ireadings Ifirsts Iseconds Icovariances) ++ (wC k aC Cx)) → va_S A s.heap H locs → lv_has ls 5 [(0, .ref (aI 0)), (1, .int v1), (2, .ref (aC 0))] → W p l e rmX4_drawOf s m args below meth c H locs 0 0 Q (F0 m 0 ls []) from main _ _ _ hP hD hS hl
  clear hP hD hS hl ls hAe
  intro H locs ls hP hD hS hl
  refine lv_aload_n hx hb dX4_drawOf_0 rfl (lv_at hl 0 rfl) ?_
  refine va_get (D := D) (ci := 4) (v := .ref (aI 4)) (C := RX4) (T := TX4) (N := 9) hx hb hts iX4 hown hK hP 0 rfl rfl 3 (by decide) f21 (fun _ h9 => h9) rfl dX4_drawOf_1 ?_
  refine lv_iload_n hx hb dX4_drawOf_4 rfl (lv_at hl 1 rfl) ?_
  obtain ⟨hi1, h⟩ := gi_inv h
  refine va_iald hx hb hK hP 4 0 rfl rfl hi1 dX4_drawOf_5 ?_
  refine lv_istore_n (lv' := [(3, .int (Iwidths v1.toNatClampNeg)), (0, .ref (aI 0)), (1, .int v1), (2, .ref (aC 0))]) hx hb dX4_drawOf_6 rfl hl (by decide) rfl (fun ls hl => ?_)
  refine lv_aload_n hx hb dX4_drawOf_7 rfl (lv_at hl 1 rfl) ?_
  refine va_get (D := D) (ci := 4) (v := .ref (aI 1)) (C := RX4) (T := TX4) (N := 9) hx hb hts iX4 hown hK hP 0 rfl rfl 0 (by decide) f9 (fun _ h9 => h9) rfl dX4_drawOf_8 ?_
  refine lv_iload_n hx hb dX4_drawOf_11 rfl (lv_at hl 2 rfl) ?_
  obtain ⟨hi2, h⟩ := gi_inv h
  refine va_iald hx hb hK hP 1 0 rfl rfl hi2 dX4_drawOf_12 ?_
  refine lv_iload_n hx hb dX4_drawOf_13 rfl (lv_at hl 0 rfl) ?_
  refine lv_isub hx hb dX4_drawOf_14 ?_
  refine lv_istore (lv' := [(4, .int ((Iestimates v1.toNatClampNeg) - (Iwidths v1.toNatClampNeg))), (3, .int (Iwidths v1.toNatClampNeg)), (0, .ref (aI 0)), (1, .int v1), (2, .ref (aC 0))]) hx hb dX4_drawOf_15 hl (by decide) rfl (fun ls hl => ?_)
  refine lv_aload_n hx hb dX4_drawOf_17 rfl (lv_at hl 2 rfl) ?_
  refine va_get (D := D) (ci := 4) (v := .ref (aI 3)) (C := RX4) (T := TX4) (N := 9) hx hb hts iX4 hown hK hP 0 rfl rfl 2 (by decide) f18 (fun _ h9 => h9) rfl dX4_drawOf_18 ?_
  refine lv_iload_n hx hb dX4_drawOf_21 rfl (lv_at hl 3 rfl) ?_
  obtain ⟨hi3, h⟩ := gi_inv h
  refine va_iald hx hb hK hP 3 0 rfl rfl hi3 dX4_drawOf_22 ?_
  rcases Decidable.em ((Isorts v1.toNatClampNeg) = 1) with c4 | c4
  · replace h := sf_t c4 h
    refine lv_tableIn (off := 29) (tgt := 52) hx hb dX4_drawOf_23 (by rw [c4]; decide) (by rw [c4]; decide) (by rw [c4]; rfl) (by decide) ?_
    refine lv_iload hx hb dX4_drawOf_52 (lv_at hl 0 rfl) ?_
    refine lv_aload_n hx hb dX4_drawOf_54 rfl (lv_at hl 4 rfl) ?_
    refine lv_iconst (v := 2) hx hb dX4_drawOf_55 (by decide) ?_
    refine lv_iload_n hx hb dX4_drawOf_56 rfl (lv_at hl 1 rfl) ?_
    refine lv_imul hx hb dX4_drawOf_57 ?_
    refine lv_iconst (v := 1) hx hb dX4_drawOf_58 (by decide) ?_
    refine lv_iadd hx hb dX4_drawOf_59 ?_
    obtain ⟨r5, x_5, hc5, h⟩ := bnd2_inv h
    have hPc := hP.sub (ws' := (wC k aC Cx)) [22] rfl
    have hDc := hD.sub (ws' := (wC k aC Cx)) [22] rfl rfl
    have hFc := va_free (wc := (wC k aC Cx)) hD hS hA [22] rfl
    refine xc_i (va_runV (As := [.int ((2 * (Iwidths v1.toNatClampNeg)) + 1)]) (rest := [.int ((Iestimates v1.toNatClampNeg) - (Iwidths v1.toNatClampNeg))]) ⟨hx, hb, hml, hown, hts⟩ (met_X1_modulo l D k  aC H.size Cx ((2 * (Iwidths v1.toNatClampNeg)) + 1) r5 x_5 hc5) (cwV 1 hts gX4_drawOf_X1_modulo rfl rfl rfl (by decide +kernel) ⟨Nat.le_of_ble_eq_true rfl, Nat.le_of_ble_eq_true rfl⟩) ⟨pw_blind, va_recv hK hPc (ci := 1) (q0 := 0) rfl rfl, pw_start hPc hK hDc⟩ rfl rfl hl.1 rfl (lv_room (Nat.le_of_ble_eq_true rfl)) dX4_drawOf_60 ⟨Nat.zero_le _, Nat.zero_le _⟩) hS hFc (fun H1 locs hP1 hD1 hk1 hS => ?_)
    obtain ⟨hP, hD⟩ := vj (ws' := ((wI k aI Iestimates Ivariances Isorts Iwidths Icounts Ireadings Ifirsts Iseconds Icovariances) ++ (wC k aC x_5))) (w1 := (wC k aC x_5)) hP hD [22] [0, 1, 2, 3, 4, 5, 6, 7, 8, 9, 10, 11, 12, 13, 14, 15, 16, 17, 18, 19, 20, 21] [0, 1, 2, 3, 4, 5, 6, 7, 8, 9, 10, 11, 12, 13, 14, 15, 16, 17, 18, 19, 20, 21, 22] rfl rfl rfl rfl rfl hk1 hFc hP1 hD1
    clear hP1 hD1 hk1 hFc
    generalize H1 = H at hP hS ⊢
    refine lv_iadd hx hb dX4_drawOf_63 ?_
    have hP9 := hP
    have hD9 := hD
    have hS9 := hS
    subst hQ
    cases h
    exact W.iret hx hb hr (fun t ht hW => ⟨⟨_, (), rfl, rfl, by rw [ht]; exact hP9, va_K.moved hW.alike hK, hD9⟩, hS9.F ht⟩) hS9.2.2 dX4_drawOf_64
  replace h := sf_f c4 h
  rcases Decidable.em ((Isorts v1.toNatClampNeg) = 2) with c6 | c6
  · replace h := sf_t c6 h
    refine lv_tableIn (off := 42) (tgt := 65) hx hb dX4_drawOf_23 (by rw [c6]; decide) (by rw [c6]; decide) (by rw [c6]; rfl) (by decide) ?_
    refine lv_iload hx hb dX4_drawOf_65 (lv_at hl 0 rfl) ?_
    refine lv_aload_n hx hb dX4_drawOf_67 rfl (lv_at hl 4 rfl) ?_
    refine lv_iload_n hx hb dX4_drawOf_68 rfl (lv_at hl 1 rfl) ?_
    refine lv_iconst (v := 1) hx hb dX4_drawOf_69 (by decide) ?_
    refine lv_iadd hx hb dX4_drawOf_70 ?_
    obtain ⟨r7, x_7, hc7, h⟩ := bnd2_inv h
    have hPc := hP.sub (ws' := (wC k aC Cx)) [22] rfl
    have hDc := hD.sub (ws' := (wC k aC Cx)) [22] rfl rfl
    have hFc := va_free (wc := (wC k aC Cx)) hD hS hA [22] rfl
    refine xc_i (va_runV (As := [.int ((Iwidths v1.toNatClampNeg) + 1)]) (rest := [.int ((Iestimates v1.toNatClampNeg) - (Iwidths v1.toNatClampNeg))]) ⟨hx, hb, hml, hown, hts⟩ (met_X1_modulo l D k  aC H.size Cx ((Iwidths v1.toNatClampNeg) + 1) r7 x_7 hc7) (cwV 1 hts gX4_drawOf_X1_modulo rfl rfl rfl (by decide +kernel) ⟨Nat.le_of_ble_eq_true rfl, Nat.le_of_ble_eq_true rfl⟩) ⟨pw_blind, va_recv hK hPc (ci := 1) (q0 := 0) rfl rfl, pw_start hPc hK hDc⟩ rfl rfl hl.1 rfl (lv_room (Nat.le_of_ble_eq_true rfl)) dX4_drawOf_71 ⟨Nat.zero_le _, Nat.zero_le _⟩) hS hFc (fun H1 locs hP1 hD1 hk1 hS => ?_)
    obtain ⟨hP, hD⟩ := vj (ws' := ((wI k aI Iestimates Ivariances Isorts Iwidths Icounts Ireadings Ifirsts Iseconds Icovariances) ++ (wC k aC x_7))) (w1 := (wC k aC x_7)) hP hD [22] [0, 1, 2, 3, 4, 5, 6, 7, 8, 9, 10, 11, 12, 13, 14, 15, 16, 17, 18, 19, 20, 21] [0, 1, 2, 3, 4, 5, 6, 7, 8, 9, 10, 11, 12, 13, 14, 15, 16, 17, 18, 19, 20, 21, 22] rfl rfl rfl rfl rfl hk1 hFc hP1 hD1
    clear hP1 hD1 hk1 hFc
    generalize H1 = H at hP hS ⊢
    refine lv_iadd hx hb dX4_drawOf_74 ?_
    refine lv_aload_n hx hb dX4_drawOf_75 rfl (lv_at hl 4 rfl) ?_
    refine lv_iload_n hx hb dX4_drawOf_76 rfl (lv_at hl 1 rfl) ?_
    refine lv_iconst (v := 1) hx hb dX4_drawOf_77 (by decide) ?_
    refine lv_iadd hx hb dX4_drawOf_78 ?_
    obtain ⟨r8, x_8, hc8, h⟩ := bnd2_inv h
    have hPc := hP.sub (ws' := (wC k aC x_7)) [22] rfl
    have hDc := hD.sub (ws' := (wC k aC x_7)) [22] rfl rfl
    have hFc := va_free (wc := (wC k aC x_7)) hD hS hA [22] rfl
    refine xc_i (va_runV (As := [.int ((Iwidths v1.toNatClampNeg) + 1)]) (rest := [.int (((Iestimates v1.toNatClampNeg) - (Iwidths v1.toNatClampNeg)) + r7)]) ⟨hx, hb, hml, hown, hts⟩ (met_X1_modulo l D k  aC H.size x_7 ((Iwidths v1.toNatClampNeg) + 1) r8 x_8 hc8) (cwV 1 hts gX4_drawOf_X1_modulo rfl rfl rfl (by decide +kernel) ⟨Nat.le_of_ble_eq_true rfl, Nat.le_of_ble_eq_true rfl⟩) ⟨pw_blind, va_recv hK hPc (ci := 1) (q0 := 0) rfl rfl, pw_start hPc hK hDc⟩ rfl rfl hl.1 rfl (lv_room (Nat.le_of_ble_eq_true rfl)) dX4_drawOf_79 ⟨Nat.zero_le _, Nat.zero_le _⟩) hS hFc (fun H1 locs hP1 hD1 hk1 hS => ?_)
    obtain ⟨hP, hD⟩ := vj (ws' := ((wI k aI Iestimates Ivariances Isorts Iwidths Icounts Ireadings Ifirsts Iseconds Icovariances) ++ (wC k aC x_8))) (w1 := (wC k aC x_8)) hP hD [22] [0, 1, 2, 3, 4, 5, 6, 7, 8, 9, 10, 11, 12, 13, 14, 15, 16, 17, 18, 19, 20, 21] [0, 1, 2, 3, 4, 5, 6, 7, 8, 9, 10, 11, 12, 13, 14, 15, 16, 17, 18, 19, 20, 21, 22] rfl rfl rfl rfl rfl hk1 hFc hP1 hD1
    clear hP1 hD1 hk1 hFc
    generalize H1 = H at hP hS ⊢
    refine lv_iadd hx hb dX4_drawOf_82 ?_
    have hP9 := hP
    have hD9 := hD
    have hS9 := hS
    subst hQ
    cases h
    exact W.iret hx hb hr (fun t ht hW => ⟨⟨_, (), rfl, rfl, by rw [ht]; exact hP9, va_K.moved hW.alike hK, hD9⟩, hS9.F ht⟩) hS9.2.2 dX4_drawOf_83
  replace h := sf_f c6 h
  rcases Decidable.em ((Isorts v1.toNatClampNeg) = 3) with c9 | c9
  · replace h := sf_t c9 h
    refine lv_tableIn (off := 61) (tgt := 84) hx hb dX4_drawOf_23 (by rw [c9]; decide) (by rw [c9]; decide) (by rw [c9]; rfl) (by decide) ?_
    refine lv_iload hx hb dX4_drawOf_84 (lv_at hl 0 rfl) ?_
    refine lv_iconst (v := 2) hx hb dX4_drawOf_86 (by decide) ?_
    refine lv_iload_n hx hb dX4_drawOf_87 rfl (lv_at hl 1 rfl) ?_
    refine lv_imul hx hb dX4_drawOf_88 ?_
    refine lv_aload_n hx hb dX4_drawOf_89 rfl (lv_at hl 4 rfl) ?_
    refine lv_iconst (v := 2) hx hb dX4_drawOf_90 (by decide) ?_
    obtain ⟨r10, x_10, hc10, h⟩ := bnd2_inv h
    have hPc := hP.sub (ws' := (wC k aC Cx)) [22] rfl
    have hDc := hD.sub (ws' := (wC k aC Cx)) [22] rfl rfl
    have hFc := va_free (wc := (wC k aC Cx)) hD hS hA [22] rfl
    refine xc_i (va_runV (As := [.int 2]) (rest := [.int (2 * (Iwidths v1.toNatClampNeg)), .int ((Iestimates v1.toNatClampNeg) - (Iwidths v1.toNatClampNeg))]) ⟨hx, hb, hml, hown, hts⟩ (met_X1_modulo l D k  aC H.size Cx 2 r10 x_10 hc10) (cwV 1 hts gX4_drawOf_X1_modulo rfl rfl rfl (by decide +kernel) ⟨Nat.le_of_ble_eq_true rfl, Nat.le_of_ble_eq_true rfl⟩) ⟨pw_blind, va_recv hK hPc (ci := 1) (q0 := 0) rfl rfl, pw_start hPc hK hDc⟩ rfl rfl hl.1 rfl (lv_room (Nat.le_of_ble_eq_true rfl)) dX4_drawOf_91 ⟨Nat.zero_le _, Nat.zero_le _⟩) hS hFc (fun H1 locs hP1 hD1 hk1 hS => ?_)
    obtain ⟨hP, hD⟩ := vj (ws' := ((wI k aI Iestimates Ivariances Isorts Iwidths Icounts Ireadings Ifirsts Iseconds Icovariances) ++ (wC k aC x_10))) (w1 := (wC k aC x_10)) hP hD [22] [0, 1, 2, 3, 4, 5, 6, 7, 8, 9, 10, 11, 12, 13, 14, 15, 16, 17, 18, 19, 20, 21] [0, 1, 2, 3, 4, 5, 6, 7, 8, 9, 10, 11, 12, 13, 14, 15, 16, 17, 18, 19, 20, 21, 22] rfl rfl rfl rfl rfl hk1 hFc hP1 hD1
    clear hP1 hD1 hk1 hFc
    generalize H1 = H at hP hS ⊢
    refine lv_imul hx hb dX4_drawOf_94 ?_
    refine lv_iadd hx hb dX4_drawOf_95 ?_
    have hP9 := hP
    have hD9 := hD
    have hS9 := hS
    subst hQ
    cases h
    exact W.iret hx hb hr (fun t ht hW => ⟨⟨_, (), rfl, rfl, by rw [ht]; exact hP9, va_K.moved hW.alike hK, hD9⟩, hS9.F ht⟩) hS9.2.2 dX4_drawOf_96
  replace h := sf_f c9 h
  rcases Decidable.em ((Isorts v1.toNatClampNeg) = 4) with c11 | c11
  · replace h := sf_t c11 h
    refine lv_tableIn (off := 74) (tgt := 97) hx hb dX4_drawOf_23 (by rw [c11]; decide) (by rw [c11]; decide) (by rw [c11]; rfl) (by decide) ?_
    refine lv_aload_n hx hb dX4_drawOf_97 rfl (lv_at hl 2 rfl) ?_
    refine va_get (D := D) (ci := 4) (v := .ref (aI 6)) (C := RX4) (T := TX4) (N := 9) hx hb hts iX4 hown hK hP 0 rfl rfl 5 (by decide) f29 (fun _ h9 => h9) rfl dX4_drawOf_98 ?_
    refine lv_iload_n hx hb dX4_drawOf_101 rfl (lv_at hl 3 rfl) ?_
    obtain ⟨hi12, h⟩ := gi_inv h
    have hj12 : v1.toNatClampNeg < 6 := vp_lt hi12
    refine va_alda (v := aI (7 + v1.toNatClampNeg)) hx hb hK hP 6 4 rfl rfl hi12 (by rw [if_pos hj12]) dX4_drawOf_102 ?_
    refine lv_aload_n hx hb dX4_drawOf_103 rfl (lv_at hl 4 rfl) ?_
    refine lv_aload_n hx hb dX4_drawOf_104 rfl (lv_at hl 2 rfl) ?_
    refine va_get (D := D) (ci := 4) (v := .ref (aI 5)) (C := RX4) (T := TX4) (N := 9) hx hb hts iX4 hown hK hP 0 rfl rfl 4 (by decide) f24 (fun _ h9 => h9) rfl dX4_drawOf_105 ?_
    refine lv_iload_n hx hb dX4_drawOf_108 rfl (lv_at hl 3 rfl) ?_
    obtain ⟨hi13, h⟩ := gi_inv h
    refine va_iald hx hb hK hP 5 0 rfl rfl hi13 dX4_drawOf_109 ?_
    obtain ⟨r14, x_14, hc14, h⟩ := bnd2_inv h
    have hPc := hP.sub (ws' := (wC k aC Cx)) [22] rfl
    have hDc := hD.sub (ws' := (wC k aC Cx)) [22] rfl rfl
    have hFc := va_free (wc := (wC k aC Cx)) hD hS hA [22] rfl
    refine xc_i (va_runV (As := [.int (Icounts v1.toNatClampNeg)]) (rest := [.ref (aI (7 + v1.toNatClampNeg))]) ⟨hx, hb, hml, hown, hts⟩ (met_X1_modulo l D k  aC H.size Cx (Icounts v1.toNatClampNeg) r14 x_14 hc14) (cwV 1 hts gX4_drawOf_X1_modulo rfl rfl rfl (by decide +kernel) ⟨Nat.le_of_ble_eq_true rfl, Nat.le_of_ble_eq_true rfl⟩) ⟨pw_blind, va_recv hK hPc (ci := 1) (q0 := 0) rfl rfl, pw_start hPc hK hDc⟩ rfl rfl hl.1 rfl (lv_room (Nat.le_of_ble_eq_true rfl)) dX4_drawOf_110 ⟨Nat.zero_le _, Nat.zero_le _⟩) hS hFc (fun H1 locs hP1 hD1 hk1 hS => ?_)
    obtain ⟨hP, hD⟩ := vj (ws' := ((wI k aI Iestimates Ivariances Isorts Iwidths Icounts Ireadings Ifirsts Iseconds Icovariances) ++ (wC k aC x_14))) (w1 := (wC k aC x_14)) hP hD [22] [0, 1, 2, 3, 4, 5, 6, 7, 8, 9, 10, 11, 12, 13, 14, 15, 16, 17, 18, 19, 20, 21] [0, 1, 2, 3, 4, 5, 6, 7, 8, 9, 10, 11, 12, 13, 14, 15, 16, 17, 18, 19, 20, 21, 22] rfl rfl rfl rfl rfl hk1 hFc hP1 hD1
    clear hP1 hD1 hk1 hFc
    generalize H1 = H at hP hS ⊢
    obtain ⟨hi15, h⟩ := gi_inv h
    have hrow : ∀ (M9 : Nat → Nat → Int32) (j : Nat), j < 6 → ((wI k aI Iestimates Ivariances Isorts Iwidths Icounts M9 Ifirsts Iseconds Icovariances) ++ (wC k aC x_14))[7 + j]? = some (aI (7 + j), .inl (k 0, 8, .inl (M9 j))) := fun M9 j hj => by rcases (show j = 0 ∨ j = 1 ∨ j = 2 ∨ j = 3 ∨ j = 4 ∨ j = 5 by omega) with rfl | rfl | rfl | rfl | rfl | rfl <;> rfl
    refine va_iald hx hb hK hP (7 + v1.toNatClampNeg) 0 (hrow _ _ hj12) rfl hi15 dX4_drawOf_113 ?_
    clear hrow
    have hP9 := hP
    have hD9 := hD
    have hS9 := hS
    subst hQ
    cases h
    exact W.iret hx hb hr (fun t ht hW => ⟨⟨_, (), rfl, rfl, by rw [ht]; exact hP9, va_K.moved hW.alike hK, hD9⟩, hS9.F ht⟩) hS9.2.2 dX4_drawOf_114
  replace h := sf_f c11 h
  refine lv_tableOut (tgt := 115) hx hb dX4_drawOf_23 (by have z0 := lv_neT (a := 1) c4 rfl; have z1 := lv_neT (a := 2) c6 rfl; have z2 := lv_neT (a := 3) c9 rfl; have z3 := lv_neT (a := 4) c11 rfl; omega) (by decide) ?_
  refine lv_aload_n hx hb dX4_drawOf_115 rfl (lv_at hl 2 rfl) ?_
  refine va_get (D := D) (ci := 4) (v := .ref (aI 1)) (C := RX4) (T := TX4) (N := 9) hx hb hts iX4 hown hK hP 0 rfl rfl 0 (by decide) f9 (fun _ h9 => h9) rfl dX4_drawOf_116 ?_
  refine lv_iload_n hx hb dX4_drawOf_119 rfl (lv_at hl 3 rfl) ?_
  obtain ⟨hi16, h⟩ := gi_inv h
  refine va_iald hx hb hK hP 1 0 rfl rfl hi16 dX4_drawOf_120 ?_
  have hP9 := hP
  have hD9 := hD
  have hS9 := hS
  subst hQ
  cases h
  exact W.iret hx hb hr (fun t ht hW => ⟨⟨_, (), rfl, rfl, by rw [ht]; exact hP9, va_K.moved hW.alike hK, hD9⟩, hS9.F ht⟩) hS9.2.2 dX4_drawOf_121
def LX4_drawInto_2 (Iestimates : Nat → Int32) (Isorts : Nat → Int32) (Iwidths : Nat → Int32) (Icounts : Nat → Int32) (Ireadings : Nat → Nat → Int32) (E23 : (Nat → Int32) → Int32 → Option ((Nat → Int32) × Int32)) : Nat → Int32 → (Nat → Int32) → Int32 → Option ((Nat → Int32) × Int32)
  | 0, _, _, _ => none
  | fuel + 1, v3, uA, Cx => (if 6 ≤ v3 then E23 uA Cx else bnd2 (fX4_drawOf v3 Iestimates Isorts Iwidths Icounts Ireadings Cx) (fun r2 Cx_2 => gi v3 6 (LX4_drawInto_2 Iestimates Isorts Iwidths Icounts Ireadings E23 fuel (v3 + 1) (upd uA (v3.toNatClampNeg) r2) Cx_2)))
def fX4_drawInto (Iestimates : Nat → Int32) (Isorts : Nat → Int32) (Iwidths : Nat → Int32) (Icounts : Nat → Int32) (Ireadings : Nat → Nat → Int32) (uA : Nat → Int32) (Cx : Int32) : Option ((Nat → Int32) × Int32) := LX4_drawInto_2 Iestimates Isorts Iwidths Icounts Ireadings (fun (uA : Nat → Int32) (Cx : Int32) => some (uA, Cx)) 1000 0 uA Cx
abbrev rmX4_drawInto : Room := { frames := 2, cells := 0, slots := 0, locals := 45 }
set_option maxHeartbeats 4000000 in
set_option maxRecDepth 100000 in
theorem met_X4_drawInto (l : Launch) (D : va_G) (k : Nat → ClassId)  (aI : Nat → Nat) (qu : Nat) (aC : Nat → Nat) (sz : Nat) (Iestimates : Nat → Int32) (Ivariances : Nat → Int32) (Isorts : Nat → Int32) (Iwidths : Nat → Int32) (Icounts : Nat → Int32) (Ireadings : Nat → Nat → Int32) (Ifirsts : Nat → Int32) (Iseconds : Nat → Int32) (Icovariances : Nat → Nat → Int32) (uA : Nat → Int32) (Cx : Int32)  (RuA : Nat → Int32) (RCx : Int32) (h : fX4_drawInto Iestimates Isorts Iwidths Icounts Ireadings uA Cx = some (RuA, RCx)) : Met l yX4_drawInto wsX4_drawInto rmX4_drawInto (va_Pc [.ref (aI 0), .ref qu, .ref (aC 0)] (PreW D k ((wI k aI Iestimates Ivariances Isorts Iwidths Icounts Ireadings Ifirsts Iseconds Icovariances) ++ ([(qu, .inl (k 0, 6, .inl uA))]) ++ (wC k aC Cx)) sz)) (va_Qv (fun _ : Unit => True) (fun _ t => PostW D k (va_A ((wI k aI Iestimates Ivariances Isorts Iwidths Icounts Ireadings Ifirsts Iseconds Icovariances) ++ ([(qu, .inl (k 0, 6, .inl uA))]) ++ (wC k aC Cx)) sz) ((wI k aI Iestimates Ivariances Isorts Iwidths Icounts Ireadings Ifirsts Iseconds Icovariances) ++ ([(qu, .inl (k 0, 6, .inl RuA))]) ++ (wC k aC RCx)) t) (va_A ((wI k aI Iestimates Ivariances Isorts Iwidths Icounts Ireadings Ifirsts Iseconds Icovariances) ++ ([(qu, .inl (k 0, 6, .inl uA))]) ++ (wC k aC Cx)) sz)) 0 0 (va_A ((wI k aI Iestimates Ivariances Isorts Iwidths Icounts Ireadings Ifirsts Iseconds Icovariances) ++ ([(qu, .inl (k 0, 6, .inl uA))]) ++ (wC k aC Cx)) sz) := by
  refine Met.ofW (cc := cX4_drawInto) (maxL := 4) (ret := none) (by decide) rfl ?_
  intro p e s m args below meth c s₁ B hml hv
  obtain ⟨hav, hsz, hP, hK, hD0⟩ := hv
  have hx := B.exec
  have hb := B.bytes
  have hr := B.returns
  have hts := atoms_spec (ws := wsX4_drawInto) B.pre
  have hown : s.vm.findClass RX4 = some m.cls := findClass_of_methodNamed B.named
  have hlocks := B.notSynchronized
  subst hsz
  have hD := hD0.self (sz := s.heap.size)
  clear hD0
  generalize hAe : va_A ((wI k aI Iestimates Ivariances Isorts Iwidths Icounts Ireadings Ifirsts Iseconds Icovariances) ++ ([(qu, .inl (k 0, 6, .inl uA))]) ++ (wC k aC Cx)) s.heap.size = A at hD ⊢
  have hA : ∀ q : Nat, s.heap.size ≤ q → A q := fun q h => by rw [← hAe]; exact Or.inr h
  have hS : va_S A s.heap s.heap [] := va_S.rf
  have hl := lv_entry ([.ref (aI 0), .ref qu, .ref (aC 0)]) (n := 4) (Nat.le_of_ble_eq_true rfl)
  rw [show entryFrame m args 4 = entryFrame m ([.ref (aI 0), .ref qu, .ref (aC 0)] : List Value).toArray 4 from by rw [hav], lg_entry_eq]
  generalize (lg_sl ([.ref (aI 0), .ref qu, .ref (aC 0)]) ++ List.replicate (4 - (lg_sl ([.ref (aI 0), .ref qu, .ref (aC 0)])).length) Slot.unset).toArray = ls at hl ⊢
  replace hl : lv_has ls 4 [(0, .ref (aI 0)), (1, .ref qu), (2, .ref (aC 0))] := hl
  refine w_q (fun Q hQ => ?_)
  unfold fX4_drawInto at h
  show W p l e rmX4_drawInto s m args below meth c s.heap [] 0 0 Q (F0 m 0 ls [])
  have LH_2 : ∀ (E23 : (Nat → Int32) → Int32 → Option ((Nat → Int32) × Int32)) (hE23 : ∀ (uA : Nat → Int32) (Cx : Int32), E23 uA Cx = some (RuA, RCx) → ∀ (H : Heap) (locs : List Loc) (ls : Array Slot), va_P D vwCl ((wI k aI Iestimates Ivariances Isorts Iwidths Icounts Ireadings Ifirsts Iseconds Icovariances) ++ ([(qu, .inl (k 0, 6, .inl uA))]) ++ (wC k aC Cx)) H → va_D A ((wI k aI Iestimates Ivariances Isorts Iwidths Icounts Ireadings Ifirsts Iseconds Icovariances) ++ ([(qu, .inl (k 0, 6, .inl uA))]) ++ (wC k aC Cx)) → va_S A s.heap H locs → lv_has ls 4 [] → W p l e rmX4_drawInto s m args below meth c H locs 0 0 Q (F0 m 23 ls [])) (n : Nat) (v3 : Int32) (uA : Nat → Int32) (Cx : Int32), LX4_drawInto_2 Iestimates Isorts Iwidths Icounts Ireadings E23 n v3 uA Cx = some (RuA, RCx) → ∀ (H : Heap) (locs : List Loc) (ls : Array Slot), va_P D vwCl ((wI k aI Iestimates Ivariances Isorts Iwidths Icounts Ireadings Ifirsts Iseconds Icovariances) ++ ([(qu, .inl (k 0, 6, .inl uA))]) ++ (wC k aC Cx)) H → va_D A ((wI k aI Iestimates Ivariances Isorts Iwidths Icounts Ireadings Ifirsts Iseconds Icovariances) ++ ([(qu, .inl (k 0, 6, .inl uA))]) ++ (wC k aC Cx)) → va_S A s.heap H locs → lv_has ls 4 [(0, .ref (aI 0)), (1, .ref qu), (2, .ref (aC 0)), (3, .int v3)] → W p l e rmX4_drawInto s m args below meth c H locs 0 0 Q (F0 m 2 ls []) := by
    intro E23 hE23 n
    induction n with
    | zero => intro v3 uA Cx h; simp [LX4_drawInto_2] at h
    | succ n ih =>
    intro v3 uA Cx h H locs ls hP hD hS hl
    rw [LX4_drawInto_2] at h
    refine lv_iload_n hx hb dX4_drawInto_2 rfl (lv_at hl 3 rfl) ?_
    refine lv_bipush (v := 6) hx hb dX4_drawInto_3 (by decide) ?_
    refine lv_icmp_ge (tgt := 23) hx hb dX4_drawInto_5 (by decide) (fun c1 => ?_) (fun c1 => ?_)
    · replace h := sf_t c1 h
      exact hE23 _ _ h _ _ _ hP hD hS (lv_sub hl [] rfl)
    · replace h := sf_f c1 h
      refine lv_aload_n hx hb dX4_drawInto_8 rfl (lv_at hl 1 rfl) ?_
      refine lv_iload_n hx hb dX4_drawInto_9 rfl (lv_at hl 3 rfl) ?_
      refine lv_aload_n hx hb dX4_drawInto_10 rfl (lv_at hl 0 rfl) ?_
      refine lv_iload_n hx hb dX4_drawInto_11 rfl (lv_at hl 3 rfl) ?_
      refine lv_aload_n hx hb dX4_drawInto_12 rfl (lv_at hl 2 rfl) ?_
      obtain ⟨r2, Cx_2, hc2, h⟩ := bnd2_inv h
      have hPc := hP.sub (ws' := ((wI k aI Iestimates Ivariances Isorts Iwidths Icounts Ireadings Ifirsts Iseconds Icovariances) ++ (wC k aC Cx))) [0, 1, 2, 3, 4, 5, 6, 7, 8, 9, 10, 11, 12, 13, 14, 15, 16, 17, 18, 19, 20, 21, 23] rfl
      have hDc := hD.sub (ws' := ((wI k aI Iestimates Ivariances Isorts Iwidths Icounts Ireadings Ifirsts Iseconds Icovariances) ++ (wC k aC Cx))) [0, 1, 2, 3, 4, 5, 6, 7, 8, 9, 10, 11, 12, 13, 14, 15, 16, 17, 18, 19, 20, 21, 23] rfl rfl
      have hFc := va_free (wc := ((wI k aI Iestimates Ivariances Isorts Iwidths Icounts Ireadings Ifirsts Iseconds Icovariances) ++ (wC k aC Cx))) hD hS hA [0, 1, 2, 3, 4, 5, 6, 7, 8, 9, 10, 11, 12, 13, 14, 15, 16, 17, 18, 19, 20, 21, 23] rfl
      refine xc_i (va_runV (As := [.int v3, .ref (aC 0)]) (rest := [.int v3, .ref qu]) ⟨hx, hb, hml, hown, hts⟩ (met_X4_drawOf l D k  aI aC H.size Iestimates Ivariances Isorts Iwidths Icounts Ireadings Ifirsts Iseconds Icovariances Cx v3 r2 Cx_2 hc2) (cwV 2 hts gX4_drawInto_X4_drawOf rfl rfl rfl (by decide +kernel) ⟨Nat.le_of_ble_eq_true rfl, Nat.le_of_ble_eq_true rfl⟩) ⟨pw_blind, va_recv hK hPc (ci := 4) (q0 := 0) rfl rfl, pw_start hPc hK hDc⟩ rfl rfl hl.1 rfl (lv_room (Nat.le_of_ble_eq_true rfl)) dX4_drawInto_13 ⟨Nat.zero_le _, Nat.zero_le _⟩) hS hFc (fun H1 locs hP1 hD1 hk1 hS => ?_)
      obtain ⟨hP, hD⟩ := vj (ws' := ((wI k aI Iestimates Ivariances Isorts Iwidths Icounts Ireadings Ifirsts Iseconds Icovariances) ++ ([(qu, .inl (k 0, 6, .inl uA))]) ++ (wC k aC Cx_2))) (w1 := ((wI k aI Iestimates Ivariances Isorts Iwidths Icounts Ireadings Ifirsts Iseconds Icovariances) ++ (wC k aC Cx_2))) hP hD [0, 1, 2, 3, 4, 5, 6, 7, 8, 9, 10, 11, 12, 13, 14, 15, 16, 17, 18, 19, 20, 21, 23] [22] [1, 2, 3, 4, 5, 6, 7, 8, 9, 10, 11, 12, 13, 14, 15, 16, 17, 18, 19, 20, 21, 22, 0, 23] rfl rfl rfl rfl rfl hk1 hFc hP1 hD1
      clear hP1 hD1 hk1 hFc
      generalize H1 = H at hP hS ⊢
      obtain ⟨hi3, h⟩ := gi_inv h
      refine va_iast hx hb hK hP hD hS 22 0 rfl rfl hi3 dX4_drawInto_16 (fun H locs hP hD hS => ?_)
      replace hP : va_P D vwCl ((wI k aI Iestimates Ivariances Isorts Iwidths Icounts Ireadings Ifirsts Iseconds Icovariances) ++ ([(qu, .inl (k 0, 6, .inl (upd uA (v3.toNatClampNeg) r2)))]) ++ (wC k aC Cx_2)) H := hP
      replace hD : va_D A ((wI k aI Iestimates Ivariances Isorts Iwidths Icounts Ireadings Ifirsts Iseconds Icovariances) ++ ([(qu, .inl (k 0, 6, .inl (upd uA (v3.toNatClampNeg) r2)))]) ++ (wC k aC Cx_2)) := hD
      refine lv_iinc (v := v3 + 1) (lv' := [(3, .int (v3 + 1)), (0, .ref (aI 0)), (1, .ref qu), (2, .ref (aC 0))]) hx hb dX4_drawInto_17 hl (k := 3) rfl rfl (by decide) rfl (fun ls hl => ?_)
      refine lv_goto (tgt := 2) hx hb dX4_drawInto_20 (by decide) ?_
      exact ih _ _ _ h _ _ _ hP hD hS (lv_sub hl [1, 2, 3, 0] rfl)
  suffices main : ∀ (H : Heap) (locs : List Loc) (ls : Array Slot), va_P D vwCl ((wI k aI Iestimates Ivariances Isorts Iwidths Icounts Ireadings Ifirsts Iseconds Icovariances) ++ ([(qu, .inl (k 0, 6, .inl uA))]) ++ (wC k aC Cx)) H → va_D A ((wI k aI Iestimates Ivariances Isorts Iwidths Icounts Ireadings Ifirsts Iseconds Icovariances) ++ ([(qu, .inl (k 0, 6, .inl uA))]) ++ (wC k aC Cx)) → va_S A s.heap H locs → lv_has ls 4 [(0, .ref (aI 0)), (1, .ref qu), (2, .ref (aC 0))] → W p l e rmX4_drawInto s m args below meth c H locs 0 0 Q (F0 m 0 ls []) from main _ _ _ hP hD hS hl
  clear hP hD hS hl ls hAe
  intro H locs ls hP hD hS hl
  refine lv_iconst (v := 0) hx hb dX4_drawInto_0 (by decide) ?_
  refine lv_istore_n (lv' := [(3, .int 0), (0, .ref (aI 0)), (1, .ref qu), (2, .ref (aC 0))]) hx hb dX4_drawInto_1 rfl hl (by decide) rfl (fun ls hl => ?_)
  refine LH_2 _ (fun uA Cx h H locs ls hP hD hS hl => ?_) _ _ _ _ h _ _ _ hP hD hS (lv_sub hl [1, 2, 3, 0] rfl)
  · skip
    have hP9 := hP
    have hD9 := hD
    have hS9 := hS
    subst hQ
    cases h
    exact W.vret hx hb hr (fun t ht hW => ⟨⟨(), rfl, trivial, by rw [ht]; exact hP9, va_K.moved hW.alike hK, hD9⟩, hS9.F ht⟩) hS9.2.2 dX4_drawInto_23
