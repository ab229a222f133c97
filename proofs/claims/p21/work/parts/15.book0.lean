abbrev wU (k : Nat → ClassId) (a : Nat → Nat) (xI xL xS xB xV xC : Nat) (formulas : Nat → Option Nat) (drawn : Nat → Int32) (models : Int32) : va_W := [(a 0, .inr (6, [.ref xI, .ref xL, .ref (a 1), .int models, .ref xS, .ref xB, .ref xV, .ref xC, .ref (a 2)])), (a 1, .inl (k 3, 8, .inr (.inr (.inr (.inr formulas))))), (a 2, .inl (k 0, 6, .inl drawn))]
def bnd0 {β : Type} (o : Option Unit) (f : Option β) : Option β := match o with
  | none => none
  | some _ => f
theorem bnd0_inv {β : Type} {o : Option Unit} {f : Option β} {r : β} (h : bnd0 o f = some r) : o = some () ∧ f = some r := by
  unfold bnd0 at h
  split at h
  · cases h
  · exact ⟨rfl, h⟩
/-- the model's formula is the one at pF -/
def gF {α : Type} (fs : Nat → Option Nat) (i : Int32) (pF : Nat) (x : Option α) : Option α := if i < 0 ∨ 8 ≤ i.toNatClampNeg then none else if fs i.toNatClampNeg = some pF then x else none
theorem gF_inv {α : Type} {fs : Nat → Option Nat} {i : Int32} {pF : Nat} {x : Option α} {r : α} (h : gF fs i pF x = some r) : (vp_in i 8 ∧ fs i.toNatClampNeg = some pF) ∧ x = some r := by
  unfold gF at h
  split at h
  · cases h
  · next h0 =>
    split at h
    · next h1 => exact ⟨⟨h0, h1⟩, h⟩
    · cases h
/-- behind a call that left its cells as they were -/
theorem vk {A0 : Nat → Prop} {D : va_G} {ws wc : va_W} {H H1 : Heap} (hP : va_P D vwCl ws H) (hD : va_D A0 ws) (isC : List Nat) (hC : isC.map (fun i => ws[i]?) = wc.map some) (hk : ∀ q : Nat, q < H.size → ¬ va_A wc H.size q → H1[q]? = H[q]?) (hP1 : va_P D vwCl wc H1) : va_P D vwCl ws H1 ∧ va_D A0 ws := by
  refine ⟨fun k q hkq => ?_, hD⟩
  have hlt := (hP k q hkq).lt
  by_cases h : va_A wc H.size q.1
  · rcases h with ⟨j, e, hj⟩ | h
    · have e1 : (isC.map (fun i => ws[i]?))[j]? = (wc.map some)[j]? := by rw [hC]
      rw [List.getElem?_map, List.getElem?_map, hj] at e1
      obtain ⟨i, hi, hi2⟩ := Option.map_eq_some_iff.mp e1
      have e3 := hD.1 i k _ _ hi2 hkq rfl
      subst e3
      have e2 : (q.1, e) = q := Option.some.inj (hi2.symm.trans hkq)
      rw [← e2]
      exact hP1 j _ hj
    · exact absurd hlt (Nat.not_lt.mpr h)
  · exact (hP k q hkq).kept (hk q.1 hlt h)
section XR
variable {p : Program} {l : Launch} {e : Env} {R : Room} {s : State} {m : MethodId} {args : Array Value} {below : List Frame} {meth : Method} {c : Code} {H : Heap} {locs : List Loc} {cells slots : Nat} {Q : State → Prop}
variable {pc : Nat} {ls : Array Slot} {rest st0 : List Value} {a : Array Value} {A0 : Nat → Prop} {H0 : Heap} {mc ms : Nat} {D : va_G} {k : Nat → ClassId} {wc w1 : va_W}
theorem xc_r {x : Nat} (hr : va_Run p l e R s m args below meth c H locs cells slots mc ms (F0 m pc ls st0) rest (va_Qr (fun _ : Unit => True) (fun _ a t => a = x ∧ PostW D k (va_A wc H.size) w1 t) (va_A wc H.size) a) (va_A wc H.size)) (hS : va_S A0 H0 H locs) (hF : ∀ q, va_A wc H.size q → A0 q)
    (kk : ∀ (H1 : Heap) (locs1 : List Loc), va_P D vwCl w1 H1 → va_D (va_A wc H.size) w1 → (∀ q : Nat, q < H.size → ¬ va_A wc H.size q → H1[q]? = H[q]?) → va_S A0 H0 H1 locs1 → W p l e R s m args below meth c H1 locs1 (cells + mc) (slots + ms) Q (F0 m (pc + 3) ls (.ref x :: rest))) : W p l e R s m args below meth c H locs cells slots Q (F0 m pc ls st0) :=
  va_callr hr hS (fun q _ h => hF q h) hF (fun u ra t H1 locs1 ht hvm hw hB hz hk hS => by obtain ⟨rfl, a, b, c⟩ := hB; rw [ht] at a; exact kk H1 locs1 a c hk hS)
end XR
abbrev rmX6_formulaOf : Room := { frames := 0, cells := 0, slots := 0, locals := 0 }
set_option maxHeartbeats 4000000 in
set_option maxRecDepth 100000 in
theorem met_X6_formulaOf (l : Launch) (D : va_G) (k : Nat → ClassId) (aU : Nat → Nat) (xI xL xS xB xV xC : Nat) (sz : Nat) (Uformulas : Nat → Option Nat) (Udrawn : Nat → Int32) (Umodels : Int32) (v1 : Int32) (x : Nat) (h : vp_in v1 8 ∧ Uformulas v1.toNatClampNeg = some x) : Met l yX6_formulaOf wsX6_formulaOf rmX6_formulaOf (va_Pc [.ref (aU 0), .int v1] (PreW D k (wU k aU xI xL xS xB xV xC Uformulas Udrawn Umodels) sz)) (va_Qr (fun _ : Unit => True) (fun _ a t => a = x ∧ PostW D k (va_A (wU k aU xI xL xS xB xV xC Uformulas Udrawn Umodels) sz) (wU k aU xI xL xS xB xV xC Uformulas Udrawn Umodels) t) (va_A (wU k aU xI xL xS xB xV xC Uformulas Udrawn Umodels) sz)) 0 0 (va_A (wU k aU xI xL xS xB xV xC Uformulas Udrawn Umodels) sz) := by
  refine Met.ofW (cc := cX6_formulaOf) (maxL := 3) (ret := (some (.object "UncertainBook$Formula"))) (by decide) rfl ?_
  intro p e s m args below meth c s₁ B hml hv
  obtain ⟨hav, hsz, hP, hK, hD0⟩ := hv
  have hx := B.exec
  have hb := B.bytes
  have hr := B.returns
  have hts := atoms_spec (ws := wsX6_formulaOf) B.pre
  have hown : s.vm.findClass RX6 = some m.cls := findClass_of_methodNamed B.named
  have hlocks := B.notSynchronized
  subst hsz
  have hD := hD0.self (sz := s.heap.size)
  clear hD0
  generalize hAe : va_A (wU k aU xI xL xS xB xV xC Uformulas Udrawn Umodels) s.heap.size = A at hD ⊢
  have hA : ∀ q : Nat, s.heap.size ≤ q → A q := fun q h => by rw [← hAe]; exact Or.inr h
  have hS : va_S A s.heap s.heap [] := va_S.rf
  have hl := lv_entry ([.ref (aU 0), .int v1]) (n := 3) (Nat.le_of_ble_eq_true rfl)
  rw [show entryFrame m args 3 = entryFrame m ([.ref (aU 0), .int v1] : List Value).toArray 3 from by rw [hav], lg_entry_eq]
  generalize (lg_sl ([.ref (aU 0), .int v1]) ++ List.replicate (3 - (lg_sl ([.ref (aU 0), .int v1])).length) Slot.unset).toArray = ls at hl ⊢
  replace hl : lv_has ls 3 [(0, .ref (aU 0)), (1, .int v1)] := hl
  have f25 := hts (.fieldLink RX6 25 "UncertainBook" "formulas" "[LUncertainBook$Formula;") (by decide +kernel)
  have iX6 : ∀ w ∈ u_ws RX6 TX6 9, w ∈ wsX6_formulaOf := by decide +kernel
  have e1 : va_rf (Uformulas v1.toNatClampNeg) = .ref x := by rw [h.2]; rfl
  obtain ⟨j, hj, ej⟩ := vp_in_of h.1 (by decide)
  have lt8 : v1 < 8 := by rw [ej]; exact (nI_ltI (b := 8) (by omega) (by omega)).mpr hj
  show W p l e rmX6_formulaOf s m args below meth c s.heap [] 0 0 _ (F0 m 0 ls [])
  refine lv_iload_n hx hb dX6_formulaOf_0 rfl (lv_at hl 1 rfl) ?_
  refine lv_if_lt (tgt := 10) hx hb dX6_formulaOf_1 (by decide) (fun c1 => absurd c1 (fun q => h.1 (Or.inl q))) (fun c1 => ?_)
  refine lv_iload_n hx hb dX6_formulaOf_4 rfl (lv_at hl 1 rfl) ?_
  refine lv_bipush (v := 8) hx hb dX6_formulaOf_5 (by decide) ?_
  refine lv_icmp_lt (tgt := 14) hx hb dX6_formulaOf_7 (by decide) (fun c2 => ?_) (fun c2 => absurd lt8 c2)
  · refine lv_aload_n hx hb dX6_formulaOf_14 rfl (lv_at hl 0 rfl) ?_
    refine va_get (D := D) (ci := 6) (v := .ref (aU 1)) (C := RX6) (T := TX6) (N := 9) hx hb hts iX6 hown hK hP 0 rfl rfl 2 (by decide) f25 (fun _ h9 => h9) rfl dX6_formulaOf_15 ?_
    refine lv_iload_n hx hb dX6_formulaOf_18 rfl (lv_at hl 1 rfl) ?_
    refine va_aldq hx hb hK hP 1 3 rfl rfl h.1 dX6_formulaOf_19 ?_
    rw [e1]
    refine lv_astore_n (lv' := [(2, .ref x), (0, .ref (aU 0)), (1, .int v1)]) hx hb dX6_formulaOf_20 rfl hl (by decide) rfl (fun ls hl => ?_)
    refine lv_aload_n hx hb dX6_formulaOf_21 rfl (lv_at hl 0 rfl) ?_
    refine lv_ifnonnull (tgt := 35) hx hb dX6_formulaOf_22 (by decide) ?_
    refine lv_aload_n hx hb dX6_formulaOf_35 rfl (lv_at hl 0 rfl) ?_
    exact W.aret hx hb hr (Or.inl ⟨_, rfl⟩) (Or.inr ⟨_, rfl⟩) (fun t ht hW => ⟨⟨(), x, rfl, trivial, rfl, by rw [ht]; exact hP, va_K.moved hW.alike hK, hD⟩, hS.F ht⟩) hS.2.2 dX6_formulaOf_36

def fX6_checkInput (v0 : Int32) : Option (Unit) := (if v0 < 0 then none else (if v0 < 6 then some () else none))
abbrev rmX6_checkInput : Room := { frames := 0, cells := 0, slots := 0, locals := 0 }

set_option maxHeartbeats 40000000 in
set_option maxRecDepth 100000 in
theorem met_X6_checkInput (l : Launch) (D : va_G) (k : Nat → ClassId)   (sz : Nat)  (v0 : Int32)  (h : fX6_checkInput v0 = some ()) : Met l yX6_checkInput wsX6_checkInput rmX6_checkInput (va_Pc [.int v0] (PreW D k ([] : va_W) sz)) (va_Qv (fun _ : Unit => True) (fun _ t => PostW D k (va_A ([] : va_W) sz) ([] : va_W) t) (va_A ([] : va_W) sz)) 0 0 (va_A ([] : va_W) sz) := by
  refine Met.ofW (cc := cX6_checkInput) (maxL := 1) (ret := none) (by decide) rfl ?_
  intro p e s m args below meth c s₁ B hml hv
  obtain ⟨hav, hsz, hP, hK, hD0⟩ := hv
  have hx := B.exec
  have hb := B.bytes
  have hr := B.returns
  have hts := atoms_spec (ws := wsX6_checkInput) B.pre
  have hown : s.vm.findClass RX6 = some m.cls := findClass_of_methodNamed B.named
  have hlocks := B.notSynchronized
  subst hsz
  have hD := hD0.self (sz := s.heap.size)
  clear hD0
  generalize hAe : va_A ([] : va_W) s.heap.size = A at hD ⊢
  have hA : ∀ q : Nat, s.heap.size ≤ q → A q := fun q h => by rw [← hAe]; exact Or.inr h
  have hS : va_S A s.heap s.heap [] := va_S.rf
  have hl := lv_entry ([.int v0]) (n := 1) (Nat.le_of_ble_eq_true rfl)
  rw [show entryFrame m args 1 = entryFrame m ([.int v0] : List Value).toArray 1 from by rw [hav], lg_entry_eq]
  generalize (lg_sl ([.int v0]) ++ List.replicate (1 - (lg_sl ([.int v0])).length) Slot.unset).toArray = ls at hl ⊢
  replace hl : lv_has ls 1 [(0, .int v0)] := hl
  refine w_q (fun Q hQ => ?_)
  unfold fX6_checkInput at h
  show W p l e rmX6_checkInput s m args below meth c s.heap [] 0 0 Q (F0 m 0 ls [])
  suffices main : ∀ (H : Heap) (locs : List Loc) (ls : Array Slot), va_P D vwCl ([] : va_W) H → va_D A ([] : va_W) → va_S A s.heap H locs → lv_has ls 1 [(0, .int v0)] → W p l e rmX6_checkInput s m args below meth c H locs 0 0 Q (F0 m 0 ls []) from main _ _ _ hP hD hS hl
  clear hP hD hS hl ls hAe
  intro H locs ls hP hD hS hl
  refine lv_iload_n hx hb dX6_checkInput_0 rfl (lv_at hl 0 rfl) ?_
  refine lv_if_lt (tgt := 10) hx hb dX6_checkInput_1 (by decide) (fun c1 => ?_) (fun c1 => ?_)
  · replace h := sf_t c1 h
    cases h
  · replace h := sf_f c1 h
    refine lv_iload_n hx hb dX6_checkInput_4 rfl (lv_at hl 0 rfl) ?_
    refine lv_bipush (v := 6) hx hb dX6_checkInput_5 (by decide) ?_
    refine lv_icmp_lt (tgt := 20) hx hb dX6_checkInput_7 (by decide) (fun c2 => ?_) (fun c2 => ?_)
    · replace h := sf_t c2 h
      have hP9 := hP
      have hD9 := hD
      have hS9 := hS
      subst hQ
      exact W.vret hx hb hr (fun t ht hW => ⟨⟨(), rfl, trivial, by rw [ht]; exact hP9, va_K.moved hW.alike hK, hD9⟩, hS9.F ht⟩) hS9.2.2 dX6_checkInput_20
    · replace h := sf_f c2 h
      cases h
def fX6_checkRange (v0 : Int32) (v1 : Int32) (v2 : Int32) : Option (Unit) := (if v0 < v1 then none else (if v0 ≤ v2 then some () else none))
abbrev rmX6_checkRange : Room := { frames := 0, cells := 0, slots := 0, locals := 0 }

set_option maxHeartbeats 40000000 in
set_option maxRecDepth 100000 in
theorem met_X6_checkRange (l : Launch) (D : va_G) (k : Nat → ClassId)   (sz : Nat)  (v0 : Int32) (v1 : Int32) (v2 : Int32)  (h : fX6_checkRange v0 v1 v2 = some ()) : Met l yX6_checkRange wsX6_checkRange rmX6_checkRange (va_Pc [.int v0, .int v1, .int v2] (PreW D k ([] : va_W) sz)) (va_Qv (fun _ : Unit => True) (fun _ t => PostW D k (va_A ([] : va_W) sz) ([] : va_W) t) (va_A ([] : va_W) sz)) 0 0 (va_A ([] : va_W) sz) := by
  refine Met.ofW (cc := cX6_checkRange) (maxL := 3) (ret := none) (by decide) rfl ?_
  intro p e s m args below meth c s₁ B hml hv
  obtain ⟨hav, hsz, hP, hK, hD0⟩ := hv
  have hx := B.exec
  have hb := B.bytes
  have hr := B.returns
  have hts := atoms_spec (ws := wsX6_checkRange) B.pre
  have hown : s.vm.findClass RX6 = some m.cls := findClass_of_methodNamed B.named
  have hlocks := B.notSynchronized
  subst hsz
  have hD := hD0.self (sz := s.heap.size)
  clear hD0
  generalize hAe : va_A ([] : va_W) s.heap.size = A at hD ⊢
  have hA : ∀ q : Nat, s.heap.size ≤ q → A q := fun q h => by rw [← hAe]; exact Or.inr h
  have hS : va_S A s.heap s.heap [] := va_S.rf
  have hl := lv_entry ([.int v0, .int v1, .int v2]) (n := 3) (Nat.le_of_ble_eq_true rfl)
  rw [show entryFrame m args 3 = entryFrame m ([.int v0, .int v1, .int v2] : List Value).toArray 3 from by rw [hav], lg_entry_eq]
  generalize (lg_sl ([.int v0, .int v1, .int v2]) ++ List.replicate (3 - (lg_sl ([.int v0, .int v1, .int v2])).length) Slot.unset).toArray = ls at hl ⊢
  replace hl : lv_has ls 3 [(0, .int v0), (1, .int v1), (2, .int v2)] := hl
  refine w_q (fun Q hQ => ?_)
  unfold fX6_checkRange at h
  show W p l e rmX6_checkRange s m args below meth c s.heap [] 0 0 Q (F0 m 0 ls [])
  suffices main : ∀ (H : Heap) (locs : List Loc) (ls : Array Slot), va_P D vwCl ([] : va_W) H → va_D A ([] : va_W) → va_S A s.heap H locs → lv_has ls 3 [(0, .int v0), (1, .int v1), (2, .int v2)] → W p l e rmX6_checkRange s m args below meth c H locs 0 0 Q (F0 m 0 ls []) from main _ _ _ hP hD hS hl
  clear hP hD hS hl ls hAe
  intro H locs ls hP hD hS hl
  refine lv_iload_n hx hb dX6_checkRange_0 rfl (lv_at hl 0 rfl) ?_
  refine lv_iload_n hx hb dX6_checkRange_1 rfl (lv_at hl 1 rfl) ?_
  refine lv_icmp_lt (tgt := 10) hx hb dX6_checkRange_2 (by decide) (fun c1 => ?_) (fun c1 => ?_)
  · replace h := sf_t c1 h
    cases h
  · replace h := sf_f c1 h
    refine lv_iload_n hx hb dX6_checkRange_5 rfl (lv_at hl 0 rfl) ?_
    refine lv_iload_n hx hb dX6_checkRange_6 rfl (lv_at hl 2 rfl) ?_
    refine lv_icmp_le (tgt := 20) hx hb dX6_checkRange_7 (by decide) (fun c2 => ?_) (fun c2 => ?_)
    · replace h := sf_t c2 h
      have hP9 := hP
      have hD9 := hD
      have hS9 := hS
      subst hQ
      exact W.vret hx hb hr (fun t ht hW => ⟨⟨(), rfl, trivial, by rw [ht]; exact hP9, va_K.moved hW.alike hK, hD9⟩, hS9.F ht⟩) hS9.2.2 dX6_checkRange_20
    · replace h := sf_f c2 h
      cases h
def BX6_shape_33 (v1 : Int32) (v2 : Int32) (v3 : Int32) (v4 : Int32)  (s0 : Int32) (s1 : Int32) (s2 : Int32) (Iestimates : Nat → Int32) (Ivariances : Nat → Int32) (Isorts : Nat → Int32) (Iwidths : Nat → Int32) (Icounts : Nat → Int32) : Option (Int32 × (Nat → Int32) × (Nat → Int32) × (Nat → Int32) × (Nat → Int32) × (Nat → Int32)) := bnd0 (fX6_checkRange s0 s1 s2) (bnd6 (fX4_tellShape v1 v2 v3 v4 Iestimates Ivariances Isorts Iwidths Icounts) (fun r6 estimates_6 variances_6 sorts_6 widths_6 counts_6 => some (r6, estimates_6, variances_6, sorts_6, widths_6, counts_6)))
def fX6_shape (v1 : Int32) (v2 : Int32) (v3 : Int32) (v4 : Int32) (Iestimates : Nat → Int32) (Ivariances : Nat → Int32) (Isorts : Nat → Int32) (Iwidths : Nat → Int32) (Icounts : Nat → Int32) : Option (Int32 × (Nat → Int32) × (Nat → Int32) × (Nat → Int32) × (Nat → Int32) × (Nat → Int32)) := bnd0 (fX6_checkInput v1) (bnd0 (fX6_checkRange v2 ((-999)) 999) (bnd0 (fX6_checkRange v3 0 3) ((if v3 = 0 then BX6_shape_33 v1 v2 v3 v4 v4 0 0 Iestimates Ivariances Isorts Iwidths Icounts else BX6_shape_33 v1 v2 v3 v4 v4 0 99 Iestimates Ivariances Isorts Iwidths Icounts))))
abbrev rmX6_shape : Room := { frames := 2, cells := 0, slots := 0, locals := 45 }

set_option maxHeartbeats 40000000 in
set_option maxRecDepth 100000 in
theorem met_X6_shape (l : Launch) (D : va_G) (k : Nat → ClassId) (xL xS xB xV xC : Nat) (aU : Nat → Nat) (aI : Nat → Nat) (sz : Nat) (Uformulas : Nat → Option Nat) (Udrawn : Nat → Int32) (Umodels : Int32) (Iestimates : Nat → Int32) (Ivariances : Nat → Int32) (Isorts : Nat → Int32) (Iwidths : Nat → Int32) (Icounts : Nat → Int32) (Ireadings : Nat → Nat → Int32) (Ifirsts : Nat → Int32) (Iseconds : Nat → Int32) (Icovariances : Nat → Nat → Int32) (v1 : Int32) (v2 : Int32) (v3 : Int32) (v4 : Int32) (r : Int32) (RIestimates : Nat → Int32) (RIvariances : Nat → Int32) (RIsorts : Nat → Int32) (RIwidths : Nat → Int32) (RIcounts : Nat → Int32) (h : fX6_shape v1 v2 v3 v4 Iestimates Ivariances Isorts Iwidths Icounts = some (r, RIestimates, RIvariances, RIsorts, RIwidths, RIcounts)) : Met l yX6_shape wsX6_shape rmX6_shape (va_Pc [.ref (aU 0), .int v1, .int v2, .int v3, .int v4] (PreW D k ((wU k aU (aI 0) xL xS xB xV xC Uformulas Udrawn Umodels) ++ (wI k aI Iestimates Ivariances Isorts Iwidths Icounts Ireadings Ifirsts Iseconds Icovariances)) sz)) (va_Qi (fun r9 (_ : Unit) => r9 = r) (fun _ t => PostW D k (va_A ((wU k aU (aI 0) xL xS xB xV xC Uformulas Udrawn Umodels) ++ (wI k aI Iestimates Ivariances Isorts Iwidths Icounts Ireadings Ifirsts Iseconds Icovariances)) sz) ((wU k aU (aI 0) xL xS xB xV xC Uformulas Udrawn Umodels) ++ (wI k aI RIestimates RIvariances RIsorts RIwidths RIcounts Ireadings Ifirsts Iseconds Icovariances)) t) (va_A ((wU k aU (aI 0) xL xS xB xV xC Uformulas Udrawn Umodels) ++ (wI k aI Iestimates Ivariances Isorts Iwidths Icounts Ireadings Ifirsts Iseconds Icovariances)) sz)) 0 0 (va_A ((wU k aU (aI 0) xL xS xB xV xC Uformulas Udrawn Umodels) ++ (wI k aI Iestimates Ivariances Isorts Iwidths Icounts Ireadings Ifirsts Iseconds Icovariances)) sz) := by
  refine Met.ofW (cc := cX6_shape) (maxL := 5) (ret := (some .int)) (by decide) rfl ?_
  intro p e s m args below meth c s₁ B hml hv
  obtain ⟨hav, hsz, hP, hK, hD0⟩ := hv
  have hx := B.exec
  have hb := B.bytes
  have hr := B.returns
  have hts := atoms_spec (ws := wsX6_shape) B.pre
  have hown : s.vm.findClass RX6 = some m.cls := findClass_of_methodNamed B.named
  have hlocks := B.notSynchronized
  subst hsz
  have hD := hD0.self (sz := s.heap.size)
  clear hD0
  generalize hAe : va_A ((wU k aU (aI 0) xL xS xB xV xC Uformulas Udrawn Umodels) ++ (wI k aI Iestimates Ivariances Isorts Iwidths Icounts Ireadings Ifirsts Iseconds Icovariances)) s.heap.size = A at hD ⊢
  have hA : ∀ q : Nat, s.heap.size ≤ q → A q := fun q h => by rw [← hAe]; exact Or.inr h
  have hS : va_S A s.heap s.heap [] := va_S.rf
  have hl := lv_entry ([.ref (aU 0), .int v1, .int v2, .int v3, .int v4]) (n := 5) (Nat.le_of_ble_eq_true rfl)
  rw [show entryFrame m args 5 = entryFrame m ([.ref (aU 0), .int v1, .int v2, .int v3, .int v4] : List Value).toArray 5 from by rw [hav], lg_entry_eq]
  generalize (lg_sl ([.ref (aU 0), .int v1, .int v2, .int v3, .int v4]) ++ List.replicate (5 - (lg_sl ([.ref (aU 0), .int v1, .int v2, .int v3, .int v4])).length) Slot.unset).toArray = ls at hl ⊢
  replace hl : lv_has ls 5 [(0, .ref (aU 0)), (1, .int v1), (2, .int v2), (3, .int v3), (4, .int v4)] := hl
  have f10 := hts (.fieldLink RX6 10 "UncertainBook" "inputs" "LUncertainBook$Inputs;") (by decide +kernel)
  have iX6 : ∀ w ∈ u_ws RX6 TX6 9, w ∈ wsX6_shape := by decide +kernel
  refine w_q (fun Q hQ => ?_)
  unfold fX6_shape at h
  show W p l e rmX6_shape s m args below meth c s.heap [] 0 0 Q (F0 m 0 ls [])
  have BH_33 : ∀ (s0 : Int32) (s1 : Int32) (s2 : Int32) (Iestimates : Nat → Int32) (Ivariances : Nat → Int32) (Isorts : Nat → Int32) (Iwidths : Nat → Int32) (Icounts : Nat → Int32), BX6_shape_33 v1 v2 v3 v4 s0 s1 s2 Iestimates Ivariances Isorts Iwidths Icounts = some (r, RIestimates, RIvariances, RIsorts, RIwidths, RIcounts) → ∀ (H : Heap) (locs : List Loc) (ls : Array Slot), va_P D vwCl ((wU k aU (aI 0) xL xS xB xV xC Uformulas Udrawn Umodels) ++ (wI k aI Iestimates Ivariances Isorts Iwidths Icounts Ireadings Ifirsts Iseconds Icovariances)) H → va_D A ((wU k aU (aI 0) xL xS xB xV xC Uformulas Udrawn Umodels) ++ (wI k aI Iestimates Ivariances Isorts Iwidths Icounts Ireadings Ifirsts Iseconds Icovariances)) → va_S A s.heap H locs → lv_has ls 5 [(0, .ref (aU 0)), (1, .int v1), (2, .int v2), (3, .int v3), (4, .int v4)] → W p l e rmX6_shape s m args below meth c H locs 0 0 Q (F0 m 33 ls [.int s2, .int s1, .int s0]) := by
    intro  s0 s1 s2 Iestimates Ivariances Isorts Iwidths Icounts h H locs ls hP hD hS hl
    unfold BX6_shape_33 at h
    obtain ⟨hc5, h⟩ := bnd0_inv h
    have hPc := hP.sub (ws' := ([] : va_W)) [] rfl
    have hDc := hD.sub (ws' := ([] : va_W)) [] rfl rfl
    have hFc := va_free (wc := ([] : va_W)) hD hS hA [] rfl
    refine xc_v (va_runS (As := [.int s0, .int s1, .int s2]) (rest := []) ⟨hx, hb, hml, hown, hts⟩ (met_X6_checkRange l D k  H.size s0 s1 s2 hc5) (va_cwS 3 hts gX6_shape_X6_checkRange rfl rfl rfl (by decide +kernel) ⟨Nat.le_of_ble_eq_true rfl, Nat.le_of_ble_eq_true rfl⟩) ⟨pw_blind, pw_start hPc hK hDc⟩ rfl rfl hl.1 rfl (lv_room (Nat.le_of_ble_eq_true rfl)) dX6_shape_33 ⟨Nat.zero_le _, Nat.zero_le _⟩) hS hFc (fun H1 locs hP1 hD1 hk1 hS => ?_)
    obtain ⟨hP, hD⟩ := vk hP hD [] rfl hk1 hP1
    clear hP1 hD1 hk1 hFc
    generalize H1 = H at hP hS ⊢
    refine lv_aload_n hx hb dX6_shape_36 rfl (lv_at hl 0 rfl) ?_
    refine va_get (D := D) (ci := 6) (v := .ref (aI 0)) (C := RX6) (T := TX6) (N := 9) hx hb hts iX6 hown hK hP 0 rfl rfl 0 (by decide) f10 (fun _ h9 => h9) rfl dX6_shape_37 ?_
    refine lv_iload_n hx hb dX6_shape_40 rfl (lv_at hl 1 rfl) ?_
    refine lv_iload_n hx hb dX6_shape_41 rfl (lv_at hl 2 rfl) ?_
    refine lv_iload_n hx hb dX6_shape_42 rfl (lv_at hl 3 rfl) ?_
    refine lv_iload hx hb dX6_shape_43 (lv_at hl 4 rfl) ?_
    obtain ⟨r6, estimates_6, variances_6, sorts_6, widths_6, counts_6, hc6, h⟩ := bnd6_inv h
    have hPc := hP.sub (ws' := (wI k aI Iestimates Ivariances Isorts Iwidths Icounts Ireadings Ifirsts Iseconds Icovariances)) [3, 4, 5, 6, 7, 8, 9, 10, 11, 12, 13, 14, 15, 16, 17, 18, 19, 20, 21, 22, 23, 24] rfl
    have hDc := hD.sub (ws' := (wI k aI Iestimates Ivariances Isorts Iwidths Icounts Ireadings Ifirsts Iseconds Icovariances)) [3, 4, 5, 6, 7, 8, 9, 10, 11, 12, 13, 14, 15, 16, 17, 18, 19, 20, 21, 22, 23, 24] rfl rfl
    have hFc := va_free (wc := (wI k aI Iestimates Ivariances Isorts Iwidths Icounts Ireadings Ifirsts Iseconds Icovariances)) hD hS hA [3, 4, 5, 6, 7, 8, 9, 10, 11, 12, 13, 14, 15, 16, 17, 18, 19, 20, 21, 22, 23, 24] rfl
    refine xc_i (va_runV (As := [.int v1, .int v2, .int v3, .int v4]) (rest := []) ⟨hx, hb, hml, hown, hts⟩ (met_X4_tellShape l D k  aI H.size Iestimates Ivariances Isorts Iwidths Icounts Ireadings Ifirsts Iseconds Icovariances v1 v2 v3 v4 r6 estimates_6 variances_6 sorts_6 widths_6 counts_6 hc6) (cwV 4 hts gX6_shape_X4_tellShape rfl rfl rfl (by decide +kernel) ⟨Nat.le_of_ble_eq_true rfl, Nat.le_of_ble_eq_true rfl⟩) ⟨pw_blind, va_recv hK hPc (ci := 4) (q0 := 0) rfl rfl, pw_start hPc hK hDc⟩ rfl rfl hl.1 rfl (lv_room (Nat.le_of_ble_eq_true rfl)) dX6_shape_45 ⟨Nat.zero_le _, Nat.zero_le _⟩) hS hFc (fun H1 locs hP1 hD1 hk1 hS => ?_)
    obtain ⟨hP, hD⟩ := vj (ws' := ((wU k aU (aI 0) xL xS xB xV xC Uformulas Udrawn Umodels) ++ (wI k aI estimates_6 variances_6 sorts_6 widths_6 counts_6 Ireadings Ifirsts Iseconds Icovariances))) (w1 := (wI k aI estimates_6 variances_6 sorts_6 widths_6 counts_6 Ireadings Ifirsts Iseconds Icovariances)) hP hD [3, 4, 5, 6, 7, 8, 9, 10, 11, 12, 13, 14, 15, 16, 17, 18, 19, 20, 21, 22, 23, 24] [0, 1, 2] [0, 1, 2, 3, 4, 5, 6, 7, 8, 9, 10, 11, 12, 13, 14, 15, 16, 17, 18, 19, 20, 21, 22, 23, 24] rfl rfl rfl rfl rfl hk1 hFc hP1 hD1
    clear hP1 hD1 hk1 hFc
    generalize H1 = H at hP hS ⊢
    have hP9 := hP
    have hD9 := hD
    have hS9 := hS
    subst hQ
    cases h
    exact W.iret hx hb hr (fun t ht hW => ⟨⟨_, (), rfl, rfl, by rw [ht]; exact hP9, va_K.moved hW.alike hK, hD9⟩, hS9.F ht⟩) hS9.2.2 dX6_shape_48
  suffices main : ∀ (H : Heap) (locs : List Loc) (ls : Array Slot), va_P D vwCl ((wU k aU (aI 0) xL xS xB xV xC Uformulas Udrawn Umodels) ++ (wI k aI Iestimates Ivariances Isorts Iwidths Icounts Ireadings Ifirsts Iseconds Icovariances)) H → va_D A ((wU k aU (aI 0) xL xS xB xV xC Uformulas Udrawn Umodels) ++ (wI k aI Iestimates Ivariances Isorts Iwidths Icounts Ireadings Ifirsts Iseconds Icovariances)) → va_S A s.heap H locs → lv_has ls 5 [(0, .ref (aU 0)), (1, .int v1), (2, .int v2), (3, .int v3), (4, .int v4)] → W p l e rmX6_shape s m args below meth c H locs 0 0 Q (F0 m 0 ls []) from main _ _ _ hP hD hS hl
  clear hP hD hS hl ls hAe
  intro H locs ls hP hD hS hl
  refine lv_iload_n hx hb dX6_shape_0 rfl (lv_at hl 1 rfl) ?_
  obtain ⟨hc1, h⟩ := bnd0_inv h
  have hPc := hP.sub (ws' := ([] : va_W)) [] rfl
  have hDc := hD.sub (ws' := ([] : va_W)) [] rfl rfl
  have hFc := va_free (wc := ([] : va_W)) hD hS hA [] rfl
  refine xc_v (va_runS (As := [.int v1]) (rest := []) ⟨hx, hb, hml, hown, hts⟩ (met_X6_checkInput l D k  H.size v1 hc1) (va_cwS 1 hts gX6_shape_X6_checkInput rfl rfl rfl (by decide +kernel) ⟨Nat.le_of_ble_eq_true rfl, Nat.le_of_ble_eq_true rfl⟩) ⟨pw_blind, pw_start hPc hK hDc⟩ rfl rfl hl.1 rfl (lv_room (Nat.le_of_ble_eq_true rfl)) dX6_shape_1 ⟨Nat.zero_le _, Nat.zero_le _⟩) hS hFc (fun H1 locs hP1 hD1 hk1 hS => ?_)
  obtain ⟨hP, hD⟩ := vk hP hD [] rfl hk1 hP1
  clear hP1 hD1 hk1 hFc
  generalize H1 = H at hP hS ⊢
  refine lv_iload_n hx hb dX6_shape_4 rfl (lv_at hl 2 rfl) ?_
  refine lv_sipush (v := -999) hx hb dX6_shape_5 (by decide) ?_
  refine lv_sipush (v := 999) hx hb dX6_shape_8 (by decide) ?_
  obtain ⟨hc2, h⟩ := bnd0_inv h
  have hPc := hP.sub (ws' := ([] : va_W)) [] rfl
  have hDc := hD.sub (ws' := ([] : va_W)) [] rfl rfl
  have hFc := va_free (wc := ([] : va_W)) hD hS hA [] rfl
  refine xc_v (va_runS (As := [.int v2, .int ((-999)), .int 999]) (rest := []) ⟨hx, hb, hml, hown, hts⟩ (met_X6_checkRange l D k  H.size v2 ((-999)) 999 hc2) (va_cwS 3 hts gX6_shape_X6_checkRange rfl rfl rfl (by decide +kernel) ⟨Nat.le_of_ble_eq_true rfl, Nat.le_of_ble_eq_true rfl⟩) ⟨pw_blind, pw_start hPc hK hDc⟩ rfl rfl hl.1 rfl (lv_room (Nat.le_of_ble_eq_true rfl)) dX6_shape_11 ⟨Nat.zero_le _, Nat.zero_le _⟩) hS hFc (fun H1 locs hP1 hD1 hk1 hS => ?_)
  obtain ⟨hP, hD⟩ := vk hP hD [] rfl hk1 hP1
  clear hP1 hD1 hk1 hFc
  generalize H1 = H at hP hS ⊢
  refine lv_iload_n hx hb dX6_shape_14 rfl (lv_at hl 3 rfl) ?_
  refine lv_iconst (v := 0) hx hb dX6_shape_15 (by decide) ?_
  refine lv_iconst (v := 3) hx hb dX6_shape_16 (by decide) ?_
  obtain ⟨hc3, h⟩ := bnd0_inv h
  have hPc := hP.sub (ws' := ([] : va_W)) [] rfl
  have hDc := hD.sub (ws' := ([] : va_W)) [] rfl rfl
  have hFc := va_free (wc := ([] : va_W)) hD hS hA [] rfl
  refine xc_v (va_runS (As := [.int v3, .int 0, .int 3]) (rest := []) ⟨hx, hb, hml, hown, hts⟩ (met_X6_checkRange l D k  H.size v3 0 3 hc3) (va_cwS 3 hts gX6_shape_X6_checkRange rfl rfl rfl (by decide +kernel) ⟨Nat.le_of_ble_eq_true rfl, Nat.le_of_ble_eq_true rfl⟩) ⟨pw_blind, pw_start hPc hK hDc⟩ rfl rfl hl.1 rfl (lv_room (Nat.le_of_ble_eq_true rfl)) dX6_shape_17 ⟨Nat.zero_le _, Nat.zero_le _⟩) hS hFc (fun H1 locs hP1 hD1 hk1 hS => ?_)
  obtain ⟨hP, hD⟩ := vk hP hD [] rfl hk1 hP1
  clear hP1 hD1 hk1 hFc
  generalize H1 = H at hP hS ⊢
  refine lv_iload hx hb dX6_shape_20 (lv_at hl 4 rfl) ?_
  refine lv_iconst (v := 0) hx hb dX6_shape_22 (by decide) ?_
  refine lv_iload_n hx hb dX6_shape_23 rfl (lv_at hl 3 rfl) ?_
  refine lv_if_ne (tgt := 31) hx hb dX6_shape_24 (by decide) (fun c4 => ?_) (fun c4 => ?_)
  · replace h := sf_f c4 h
    refine lv_bipush (v := 99) hx hb dX6_shape_31 (by decide) ?_
    exact BH_33  _ _ _ _ _ _ _ _ h _ _ _ hP hD hS (lv_sub hl [0, 1, 2, 3, 4] rfl)
  · replace h := sf_t c4 h
    refine lv_iconst (v := 0) hx hb dX6_shape_27 (by decide) ?_
    refine lv_goto (tgt := 33) hx hb dX6_shape_28 (by decide) ?_
    exact BH_33  _ _ _ _ _ _ _ _ h _ _ _ hP hD hS (lv_sub hl [0, 1, 2, 3, 4] rfl)
def fX6_read (v1 : Int32) (v2 : Int32) (Iestimates : Nat → Int32) (Ivariances : Nat → Int32) (Isorts : Nat → Int32) (Icounts : Nat → Int32) (Ireadings : Nat → Nat → Int32) : Option (Int32 × (Nat → Int32) × (Nat → Int32) × (Nat → Int32) × (Nat → Int32) × (Nat → Nat → Int32)) := bnd0 (fX6_checkInput v1) (bnd0 (fX6_checkRange v2 ((-999)) 999) (gi v1 6 ((if (Icounts v1.toNatClampNeg) < 8 then bnd6 (fX4_addReading v1 v2 Iestimates Ivariances Isorts Icounts Ireadings) (fun r5 estimates_5 variances_5 sorts_5 counts_5 readings_5 => some (r5, estimates_5, variances_5, sorts_5, counts_5, readings_5)) else none))))
abbrev rmX6_read : Room := { frames := 3, cells := 0, slots := 0, locals := 71 }

set_option maxHeartbeats 40000000 in
set_option maxRecDepth 100000 in
theorem met_X6_read (l : Launch) (D : va_G) (k : Nat → ClassId) (xL xS xB xV xC : Nat) (aU : Nat → Nat) (aI : Nat → Nat) (sz : Nat) (Uformulas : Nat → Option Nat) (Udrawn : Nat → Int32) (Umodels : Int32) (Iestimates : Nat → Int32) (Ivariances : Nat → Int32) (Isorts : Nat → Int32) (Iwidths : Nat → Int32) (Icounts : Nat → Int32) (Ireadings : Nat → Nat → Int32) (Ifirsts : Nat → Int32) (Iseconds : Nat → Int32) (Icovariances : Nat → Nat → Int32) (v1 : Int32) (v2 : Int32) (r : Int32) (RIestimates : Nat → Int32) (RIvariances : Nat → Int32) (RIsorts : Nat → Int32) (RIcounts : Nat → Int32) (RIreadings : Nat → Nat → Int32) (h : fX6_read v1 v2 Iestimates Ivariances Isorts Icounts Ireadings = some (r, RIestimates, RIvariances, RIsorts, RIcounts, RIreadings)) : Met l yX6_read wsX6_read rmX6_read (va_Pc [.ref (aU 0), .int v1, .int v2] (PreW D k ((wU k aU (aI 0) xL xS xB xV xC Uformulas Udrawn Umodels) ++ (wI k aI Iestimates Ivariances Isorts Iwidths Icounts Ireadings Ifirsts Iseconds Icovariances)) sz)) (va_Qi (fun r9 (_ : Unit) => r9 = r) (fun _ t => PostW D k (va_A ((wU k aU (aI 0) xL xS xB xV xC Uformulas Udrawn Umodels) ++ (wI k aI Iestimates Ivariances Isorts Iwidths Icounts Ireadings Ifirsts Iseconds Icovariances)) sz) ((wU k aU (aI 0) xL xS xB xV xC Uformulas Udrawn Umodels) ++ (wI k aI RIestimates RIvariances RIsorts Iwidths RIcounts RIreadings Ifirsts Iseconds Icovariances)) t) (va_A ((wU k aU (aI 0) xL xS xB xV xC Uformulas Udrawn Umodels) ++ (wI k aI Iestimates Ivariances Isorts Iwidths Icounts Ireadings Ifirsts Iseconds Icovariances)) sz)) 0 0 (va_A ((wU k aU (aI 0) xL xS xB xV xC Uformulas Udrawn Umodels) ++ (wI k aI Iestimates Ivariances Isorts Iwidths Icounts Ireadings Ifirsts Iseconds Icovariances)) sz) := by
  refine Met.ofW (cc := cX6_read) (maxL := 3) (ret := (some .int)) (by decide) rfl ?_
  intro p e s m args below meth c s₁ B hml hv
  obtain ⟨hav, hsz, hP, hK, hD0⟩ := hv
  have hx := B.exec
  have hb := B.bytes
  have hr := B.returns
  have hts := atoms_spec (ws := wsX6_read) B.pre
  have hown : s.vm.findClass RX6 = some m.cls := findClass_of_methodNamed B.named
  have hlocks := B.notSynchronized
  subst hsz
  have hD := hD0.self (sz := s.heap.size)
  clear hD0
  generalize hAe : va_A ((wU k aU (aI 0) xL xS xB xV xC Uformulas Udrawn Umodels) ++ (wI k aI Iestimates Ivariances Isorts Iwidths Icounts Ireadings Ifirsts Iseconds Icovariances)) s.heap.size = A at hD ⊢
  have hA : ∀ q : Nat, s.heap.size ≤ q → A q := fun q h => by rw [← hAe]; exact Or.inr h
  have hS : va_S A s.heap s.heap [] := va_S.rf
  have hl := lv_entry ([.ref (aU 0), .int v1, .int v2]) (n := 3) (Nat.le_of_ble_eq_true rfl)
  rw [show entryFrame m args 3 = entryFrame m ([.ref (aU 0), .int v1, .int v2] : List Value).toArray 3 from by rw [hav], lg_entry_eq]
  generalize (lg_sl ([.ref (aU 0), .int v1, .int v2]) ++ List.replicate (3 - (lg_sl ([.ref (aU 0), .int v1, .int v2])).length) Slot.unset).toArray = ls at hl ⊢
  replace hl : lv_has ls 3 [(0, .ref (aU 0)), (1, .int v1), (2, .int v2)] := hl
  have f10 := hts (.fieldLink RX6 10 "UncertainBook" "inputs" "LUncertainBook$Inputs;") (by decide +kernel)
  have f75 := hts (.fieldLink RX6 75 "UncertainBook$Inputs" "counts" "[I") (by decide +kernel)
  have iX4 : ∀ w ∈ u_ws RX4 TX4 9, w ∈ wsX6_read := by decide +kernel
  have iX6 : ∀ w ∈ u_ws RX6 TX6 9, w ∈ wsX6_read := by decide +kernel
  refine w_q (fun Q hQ => ?_)
  unfold fX6_read at h
  show W p l e rmX6_read s m args below meth c s.heap [] 0 0 Q (F0 m 0 ls [])
  suffices main : ∀ (H : Heap) (locs : List Loc) (ls : Array Slot), va_P D vwCl ((wU k aU (aI 0) xL xS xB xV xC Uformulas Udrawn Umodels) ++ (wI k aI Iestimates Ivariances Isorts Iwidths Icounts Ireadings Ifirsts Iseconds Icovariances)) H → va_D A ((wU k aU (aI 0) xL xS xB xV xC Uformulas Udrawn Umodels) ++ (wI k aI Iestimates Ivariances Isorts Iwidths Icounts Ireadings Ifirsts Iseconds Icovariances)) → va_S A s.heap H locs → lv_has ls 3 [(0, .ref (aU 0)), (1, .int v1), (2, .int v2)] → W p l e rmX6_read s m args below meth c H locs 0 0 Q (F0 m 0 ls []) from main _ _ _ hP hD hS hl
  clear hP hD hS hl ls hAe
  intro H locs ls hP hD hS hl
  refine lv_iload_n hx hb dX6_read_0 rfl (lv_at hl 1 rfl) ?_
  obtain ⟨hc1, h⟩ := bnd0_inv h
  have hPc := hP.sub (ws' := ([] : va_W)) [] rfl
  have hDc := hD.sub (ws' := ([] : va_W)) [] rfl rfl
  have hFc := va_free (wc := ([] : va_W)) hD hS hA [] rfl
  refine xc_v (va_runS (As := [.int v1]) (rest := []) ⟨hx, hb, hml, hown, hts⟩ (met_X6_checkInput l D k  H.size v1 hc1) (va_cwS 1 hts gX6_read_X6_checkInput rfl rfl rfl (by decide +kernel) ⟨Nat.le_of_ble_eq_true rfl, Nat.le_of_ble_eq_true rfl⟩) ⟨pw_blind, pw_start hPc hK hDc⟩ rfl rfl hl.1 rfl (lv_room (Nat.le_of_ble_eq_true rfl)) dX6_read_1 ⟨Nat.zero_le _, Nat.zero_le _⟩) hS hFc (fun H1 locs hP1 hD1 hk1 hS => ?_)
  obtain ⟨hP, hD⟩ := vk hP hD [] rfl hk1 hP1
  clear hP1 hD1 hk1 hFc
  generalize H1 = H at hP hS ⊢
  refine lv_iload_n hx hb dX6_read_4 rfl (lv_at hl 2 rfl) ?_
  refine lv_sipush (v := -999) hx hb dX6_read_5 (by decide) ?_
  refine lv_sipush (v := 999) hx hb dX6_read_8 (by decide) ?_
  obtain ⟨hc2, h⟩ := bnd0_inv h
  have hPc := hP.sub (ws' := ([] : va_W)) [] rfl
  have hDc := hD.sub (ws' := ([] : va_W)) [] rfl rfl
  have hFc := va_free (wc := ([] : va_W)) hD hS hA [] rfl
  refine xc_v (va_runS (As := [.int v2, .int ((-999)), .int 999]) (rest := []) ⟨hx, hb, hml, hown, hts⟩ (met_X6_checkRange l D k  H.size v2 ((-999)) 999 hc2) (va_cwS 3 hts gX6_read_X6_checkRange rfl rfl rfl (by decide +kernel) ⟨Nat.le_of_ble_eq_true rfl, Nat.le_of_ble_eq_true rfl⟩) ⟨pw_blind, pw_start hPc hK hDc⟩ rfl rfl hl.1 rfl (lv_room (Nat.le_of_ble_eq_true rfl)) dX6_read_11 ⟨Nat.zero_le _, Nat.zero_le _⟩) hS hFc (fun H1 locs hP1 hD1 hk1 hS => ?_)
  obtain ⟨hP, hD⟩ := vk hP hD [] rfl hk1 hP1
  clear hP1 hD1 hk1 hFc
  generalize H1 = H at hP hS ⊢
  refine lv_aload_n hx hb dX6_read_14 rfl (lv_at hl 0 rfl) ?_
  refine va_get (D := D) (ci := 6) (v := .ref (aI 0)) (C := RX6) (T := TX6) (N := 9) hx hb hts iX6 hown hK hP 0 rfl rfl 0 (by decide) f10 (fun _ h9 => h9) rfl dX6_read_15 ?_
  refine va_get (D := D) (ci := 4) (v := .ref (aI 5)) (C := RX4) (T := TX4) (N := 9) hx hb hts iX4 hown hK hP 3 rfl rfl 4 (by decide) f75 (fun _ h9 => h9) rfl dX6_read_18 ?_
  refine lv_iload_n hx hb dX6_read_21 rfl (lv_at hl 1 rfl) ?_
  obtain ⟨hi3, h⟩ := gi_inv h
  refine va_iald hx hb hK hP 8 0 rfl rfl hi3 dX6_read_22 ?_
  refine lv_bipush (v := 8) hx hb dX6_read_23 (by decide) ?_
  refine lv_icmp_lt (tgt := 38) hx hb dX6_read_25 (by decide) (fun c4 => ?_) (fun c4 => ?_)
  · replace h := sf_t c4 h
    refine lv_aload_n hx hb dX6_read_38 rfl (lv_at hl 0 rfl) ?_
    refine va_get (D := D) (ci := 6) (v := .ref (aI 0)) (C := RX6) (T := TX6) (N := 9) hx hb hts iX6 hown hK hP 0 rfl rfl 0 (by decide) f10 (fun _ h9 => h9) rfl dX6_read_39 ?_
    refine lv_iload_n hx hb dX6_read_42 rfl (lv_at hl 1 rfl) ?_
    refine lv_iload_n hx hb dX6_read_43 rfl (lv_at hl 2 rfl) ?_
    obtain ⟨r5, estimates_5, variances_5, sorts_5, counts_5, readings_5, hc5, h⟩ := bnd6_inv h
    have hPc := hP.sub (ws' := (wI k aI Iestimates Ivariances Isorts Iwidths Icounts Ireadings Ifirsts Iseconds Icovariances)) [3, 4, 5, 6, 7, 8, 9, 10, 11, 12, 13, 14, 15, 16, 17, 18, 19, 20, 21, 22, 23, 24] rfl
    have hDc := hD.sub (ws' := (wI k aI Iestimates Ivariances Isorts Iwidths Icounts Ireadings Ifirsts Iseconds Icovariances)) [3, 4, 5, 6, 7, 8, 9, 10, 11, 12, 13, 14, 15, 16, 17, 18, 19, 20, 21, 22, 23, 24] rfl rfl
    have hFc := va_free (wc := (wI k aI Iestimates Ivariances Isorts Iwidths Icounts Ireadings Ifirsts Iseconds Icovariances)) hD hS hA [3, 4, 5, 6, 7, 8, 9, 10, 11, 12, 13, 14, 15, 16, 17, 18, 19, 20, 21, 22, 23, 24] rfl
    refine xc_i (va_runV (As := [.int v1, .int v2]) (rest := []) ⟨hx, hb, hml, hown, hts⟩ (met_X4_addReading l D k  aI H.size Iestimates Ivariances Isorts Iwidths Icounts Ireadings Ifirsts Iseconds Icovariances v1 v2 r5 estimates_5 variances_5 sorts_5 counts_5 readings_5 hc5) (cwV 2 hts gX6_read_X4_addReading rfl rfl rfl (by decide +kernel) ⟨Nat.le_of_ble_eq_true rfl, Nat.le_of_ble_eq_true rfl⟩) ⟨pw_blind, va_recv hK hPc (ci := 4) (q0 := 0) rfl rfl, pw_start hPc hK hDc⟩ rfl rfl hl.1 rfl (lv_room (Nat.le_of_ble_eq_true rfl)) dX6_read_44 ⟨Nat.zero_le _, Nat.zero_le _⟩) hS hFc (fun H1 locs hP1 hD1 hk1 hS => ?_)
    obtain ⟨hP, hD⟩ := vj (ws' := ((wU k aU (aI 0) xL xS xB xV xC Uformulas Udrawn Umodels) ++ (wI k aI estimates_5 variances_5 sorts_5 Iwidths counts_5 readings_5 Ifirsts Iseconds Icovariances))) (w1 := (wI k aI estimates_5 variances_5 sorts_5 Iwidths counts_5 readings_5 Ifirsts Iseconds Icovariances)) hP hD [3, 4, 5, 6, 7, 8, 9, 10, 11, 12, 13, 14, 15, 16, 17, 18, 19, 20, 21, 22, 23, 24] [0, 1, 2] [0, 1, 2, 3, 4, 5, 6, 7, 8, 9, 10, 11, 12, 13, 14, 15, 16, 17, 18, 19, 20, 21, 22, 23, 24] rfl rfl rfl rfl rfl hk1 hFc hP1 hD1
    clear hP1 hD1 hk1 hFc
    generalize H1 = H at hP hS ⊢
    have hP9 := hP
    have hD9 := hD
    have hS9 := hS
    subst hQ
    cases h
    exact W.iret hx hb hr (fun t ht hW => ⟨⟨_, (), rfl, rfl, by rw [ht]; exact hP9, va_K.moved hW.alike hK, hD9⟩, hS9.F ht⟩) hS9.2.2 dX6_read_47
  · replace h := sf_f c4 h
    cases h
def fX6_together (v1 : Int32) (v2 : Int32) (v3 : Int32) (Icovariances : Nat → Nat → Int32) : Option (Int32 × (Nat → Nat → Int32)) := bnd0 (fX6_checkInput v1) (bnd0 (fX6_checkInput v2) (bnd0 (fX6_checkRange v3 ((-9999)) 9999) ((if v1 = v2 then none else bnd2 (fX4_tellCovariance v1 v2 v3 Icovariances) (fun r5 covariances_5 => some (r5, covariances_5))))))
abbrev rmX6_together : Room := { frames := 1, cells := 0, slots := 0, locals := 24 }

set_option maxHeartbeats 40000000 in
set_option maxRecDepth 100000 in
theorem met_X6_together (l : Launch) (D : va_G) (k : Nat → ClassId) (xL xS xB xV xC : Nat) (aU : Nat → Nat) (aI : Nat → Nat) (sz : Nat) (Uformulas : Nat → Option Nat) (Udrawn : Nat → Int32) (Umodels : Int32) (Iestimates : Nat → Int32) (Ivariances : Nat → Int32) (Isorts : Nat → Int32) (Iwidths : Nat → Int32) (Icounts : Nat → Int32) (Ireadings : Nat → Nat → Int32) (Ifirsts : Nat → Int32) (Iseconds : Nat → Int32) (Icovariances : Nat → Nat → Int32) (v1 : Int32) (v2 : Int32) (v3 : Int32) (r : Int32) (RIcovariances : Nat → Nat → Int32) (h : fX6_together v1 v2 v3 Icovariances = some (r, RIcovariances)) : Met l yX6_together wsX6_together rmX6_together (va_Pc [.ref (aU 0), .int v1, .int v2, .int v3] (PreW D k ((wU k aU (aI 0) xL xS xB xV xC Uformulas Udrawn Umodels) ++ (wI k aI Iestimates Ivariances Isorts Iwidths Icounts Ireadings Ifirsts Iseconds Icovariances)) sz)) (va_Qi (fun r9 (_ : Unit) => r9 = r) (fun _ t => PostW D k (va_A ((wU k aU (aI 0) xL xS xB xV xC Uformulas Udrawn Umodels) ++ (wI k aI Iestimates Ivariances Isorts Iwidths Icounts Ireadings Ifirsts Iseconds Icovariances)) sz) ((wU k aU (aI 0) xL xS xB xV xC Uformulas Udrawn Umodels) ++ (wI k aI Iestimates Ivariances Isorts Iwidths Icounts Ireadings Ifirsts Iseconds RIcovariances)) t) (va_A ((wU k aU (aI 0) xL xS xB xV xC Uformulas Udrawn Umodels) ++ (wI k aI Iestimates Ivariances Isorts Iwidths Icounts Ireadings Ifirsts Iseconds Icovariances)) sz)) 0 0 (va_A ((wU k aU (aI 0) xL xS xB xV xC Uformulas Udrawn Umodels) ++ (wI k aI Iestimates Ivariances Isorts Iwidths Icounts Ireadings Ifirsts Iseconds Icovariances)) sz) := by
  refine Met.ofW (cc := cX6_together) (maxL := 4) (ret := (some .int)) (by decide) rfl ?_
  intro p e s m args below meth c s₁ B hml hv
  obtain ⟨hav, hsz, hP, hK, hD0⟩ := hv
  have hx := B.exec
  have hb := B.bytes
  have hr := B.returns
  have hts := atoms_spec (ws := wsX6_together) B.pre
  have hown : s.vm.findClass RX6 = some m.cls := findClass_of_methodNamed B.named
  have hlocks := B.notSynchronized
  subst hsz
  have hD := hD0.self (sz := s.heap.size)
  clear hD0
  generalize hAe : va_A ((wU k aU (aI 0) xL xS xB xV xC Uformulas Udrawn Umodels) ++ (wI k aI Iestimates Ivariances Isorts Iwidths Icounts Ireadings Ifirsts Iseconds Icovariances)) s.heap.size = A at hD ⊢
  have hA : ∀ q : Nat, s.heap.size ≤ q → A q := fun q h => by rw [← hAe]; exact Or.inr h
  have hS : va_S A s.heap s.heap [] := va_S.rf
  have hl := lv_entry ([.ref (aU 0), .int v1, .int v2, .int v3]) (n := 4) (Nat.le_of_ble_eq_true rfl)
  rw [show entryFrame m args 4 = entryFrame m ([.ref (aU 0), .int v1, .int v2, .int v3] : List Value).toArray 4 from by rw [hav], lg_entry_eq]
  generalize (lg_sl ([.ref (aU 0), .int v1, .int v2, .int v3]) ++ List.replicate (4 - (lg_sl ([.ref (aU 0), .int v1, .int v2, .int v3])).length) Slot.unset).toArray = ls at hl ⊢
  replace hl : lv_has ls 4 [(0, .ref (aU 0)), (1, .int v1), (2, .int v2), (3, .int v3)] := hl
  have f10 := hts (.fieldLink RX6 10 "UncertainBook" "inputs" "LUncertainBook$Inputs;") (by decide +kernel)
  have iX6 : ∀ w ∈ u_ws RX6 TX6 9, w ∈ wsX6_together := by decide +kernel
  refine w_q (fun Q hQ => ?_)
  unfold fX6_together at h
  show W p l e rmX6_together s m args below meth c s.heap [] 0 0 Q (F0 m 0 ls [])
  suffices main : ∀ (H : Heap) (locs : List Loc) (ls : Array Slot), va_P D vwCl ((wU k aU (aI 0) xL xS xB xV xC Uformulas Udrawn Umodels) ++ (wI k aI Iestimates Ivariances Isorts Iwidths Icounts Ireadings Ifirsts Iseconds Icovariances)) H → va_D A ((wU k aU (aI 0) xL xS xB xV xC Uformulas Udrawn Umodels) ++ (wI k aI Iestimates Ivariances Isorts Iwidths Icounts Ireadings Ifirsts Iseconds Icovariances)) → va_S A s.heap H locs → lv_has ls 4 [(0, .ref (aU 0)), (1, .int v1), (2, .int v2), (3, .int v3)] → W p l e rmX6_together s m args below meth c H locs 0 0 Q (F0 m 0 ls []) from main _ _ _ hP hD hS hl
  clear hP hD hS hl ls hAe
  intro H locs ls hP hD hS hl
  refine lv_iload_n hx hb dX6_together_0 rfl (lv_at hl 1 rfl) ?_
  obtain ⟨hc1, h⟩ := bnd0_inv h
  have hPc := hP.sub (ws' := ([] : va_W)) [] rfl
  have hDc := hD.sub (ws' := ([] : va_W)) [] rfl rfl
  have hFc := va_free (wc := ([] : va_W)) hD hS hA [] rfl
  refine xc_v (va_runS (As := [.int v1]) (rest := []) ⟨hx, hb, hml, hown, hts⟩ (met_X6_checkInput l D k  H.size v1 hc1) (va_cwS 1 hts gX6_together_X6_checkInput rfl rfl rfl (by decide +kernel) ⟨Nat.le_of_ble_eq_true rfl, Nat.le_of_ble_eq_true rfl⟩) ⟨pw_blind, pw_start hPc hK hDc⟩ rfl rfl hl.1 rfl (lv_room (Nat.le_of_ble_eq_true rfl)) dX6_together_1 ⟨Nat.zero_le _, Nat.zero_le _⟩) hS hFc (fun H1 locs hP1 hD1 hk1 hS => ?_)
  obtain ⟨hP, hD⟩ := vk hP hD [] rfl hk1 hP1
  clear hP1 hD1 hk1 hFc
  generalize H1 = H at hP hS ⊢
  refine lv_iload_n hx hb dX6_together_4 rfl (lv_at hl 2 rfl) ?_
  obtain ⟨hc2, h⟩ := bnd0_inv h
  have hPc := hP.sub (ws' := ([] : va_W)) [] rfl
  have hDc := hD.sub (ws' := ([] : va_W)) [] rfl rfl
  have hFc := va_free (wc := ([] : va_W)) hD hS hA [] rfl
  refine xc_v (va_runS (As := [.int v2]) (rest := []) ⟨hx, hb, hml, hown, hts⟩ (met_X6_checkInput l D k  H.size v2 hc2) (va_cwS 1 hts gX6_together_X6_checkInput rfl rfl rfl (by decide +kernel) ⟨Nat.le_of_ble_eq_true rfl, Nat.le_of_ble_eq_true rfl⟩) ⟨pw_blind, pw_start hPc hK hDc⟩ rfl rfl hl.1 rfl (lv_room (Nat.le_of_ble_eq_true rfl)) dX6_together_5 ⟨Nat.zero_le _, Nat.zero_le _⟩) hS hFc (fun H1 locs hP1 hD1 hk1 hS => ?_)
  obtain ⟨hP, hD⟩ := vk hP hD [] rfl hk1 hP1
  clear hP1 hD1 hk1 hFc
  generalize H1 = H at hP hS ⊢
  refine lv_iload_n hx hb dX6_together_8 rfl (lv_at hl 3 rfl) ?_
  refine lv_sipush (v := -9999) hx hb dX6_together_9 (by decide) ?_
  refine lv_sipush (v := 9999) hx hb dX6_together_12 (by decide) ?_
  obtain ⟨hc3, h⟩ := bnd0_inv h
  have hPc := hP.sub (ws' := ([] : va_W)) [] rfl
  have hDc := hD.sub (ws' := ([] : va_W)) [] rfl rfl
  have hFc := va_free (wc := ([] : va_W)) hD hS hA [] rfl
  refine xc_v (va_runS (As := [.int v3, .int ((-9999)), .int 9999]) (rest := []) ⟨hx, hb, hml, hown, hts⟩ (met_X6_checkRange l D k  H.size v3 ((-9999)) 9999 hc3) (va_cwS 3 hts gX6_together_X6_checkRange rfl rfl rfl (by decide +kernel) ⟨Nat.le_of_ble_eq_true rfl, Nat.le_of_ble_eq_true rfl⟩) ⟨pw_blind, pw_start hPc hK hDc⟩ rfl rfl hl.1 rfl (lv_room (Nat.le_of_ble_eq_true rfl)) dX6_together_15 ⟨Nat.zero_le _, Nat.zero_le _⟩) hS hFc (fun H1 locs hP1 hD1 hk1 hS => ?_)
  obtain ⟨hP, hD⟩ := vk hP hD [] rfl hk1 hP1
  clear hP1 hD1 hk1 hFc
  generalize H1 = H at hP hS ⊢
  refine lv_iload_n hx hb dX6_together_18 rfl (lv_at hl 1 rfl) ?_
  refine lv_iload_n hx hb dX6_together_19 rfl (lv_at hl 2 rfl) ?_
  refine lv_icmp_ne (tgt := 33) hx hb dX6_together_20 (by decide) (fun c4 => ?_) (fun c4 => ?_)
  · replace h := sf_f c4 h
    refine lv_aload_n hx hb dX6_together_33 rfl (lv_at hl 0 rfl) ?_
    refine va_get (D := D) (ci := 6) (v := .ref (aI 0)) (C := RX6) (T := TX6) (N := 9) hx hb hts iX6 hown hK hP 0 rfl rfl 0 (by decide) f10 (fun _ h9 => h9) rfl dX6_together_34 ?_
    refine lv_iload_n hx hb dX6_together_37 rfl (lv_at hl 1 rfl) ?_
    refine lv_iload_n hx hb dX6_together_38 rfl (lv_at hl 2 rfl) ?_
    refine lv_iload_n hx hb dX6_together_39 rfl (lv_at hl 3 rfl) ?_
    obtain ⟨r5, covariances_5, hc5, h⟩ := bnd2_inv h
    have hPc := hP.sub (ws' := (wI k aI Iestimates Ivariances Isorts Iwidths Icounts Ireadings Ifirsts Iseconds Icovariances)) [3, 4, 5, 6, 7, 8, 9, 10, 11, 12, 13, 14, 15, 16, 17, 18, 19, 20, 21, 22, 23, 24] rfl
    have hDc := hD.sub (ws' := (wI k aI Iestimates Ivariances Isorts Iwidths Icounts Ireadings Ifirsts Iseconds Icovariances)) [3, 4, 5, 6, 7, 8, 9, 10, 11, 12, 13, 14, 15, 16, 17, 18, 19, 20, 21, 22, 23, 24] rfl rfl
    have hFc := va_free (wc := (wI k aI Iestimates Ivariances Isorts Iwidths Icounts Ireadings Ifirsts Iseconds Icovariances)) hD hS hA [3, 4, 5, 6, 7, 8, 9, 10, 11, 12, 13, 14, 15, 16, 17, 18, 19, 20, 21, 22, 23, 24] rfl
    refine xc_i (va_runV (As := [.int v1, .int v2, .int v3]) (rest := []) ⟨hx, hb, hml, hown, hts⟩ (met_X4_tellCovariance l D k  aI H.size Iestimates Ivariances Isorts Iwidths Icounts Ireadings Ifirsts Iseconds Icovariances v1 v2 v3 r5 covariances_5 hc5) (cwV 3 hts gX6_together_X4_tellCovariance rfl rfl rfl (by decide +kernel) ⟨Nat.le_of_ble_eq_true rfl, Nat.le_of_ble_eq_true rfl⟩) ⟨pw_blind, va_recv hK hPc (ci := 4) (q0 := 0) rfl rfl, pw_start hPc hK hDc⟩ rfl rfl hl.1 rfl (lv_room (Nat.le_of_ble_eq_true rfl)) dX6_together_40 ⟨Nat.zero_le _, Nat.zero_le _⟩) hS hFc (fun H1 locs hP1 hD1 hk1 hS => ?_)
    obtain ⟨hP, hD⟩ := vj (ws' := ((wU k aU (aI 0) xL xS xB xV xC Uformulas Udrawn Umodels) ++ (wI k aI Iestimates Ivariances Isorts Iwidths Icounts Ireadings Ifirsts Iseconds covariances_5))) (w1 := (wI k aI Iestimates Ivariances Isorts Iwidths Icounts Ireadings Ifirsts Iseconds covariances_5)) hP hD [3, 4, 5, 6, 7, 8, 9, 10, 11, 12, 13, 14, 15, 16, 17, 18, 19, 20, 21, 22, 23, 24] [0, 1, 2] [0, 1, 2, 3, 4, 5, 6, 7, 8, 9, 10, 11, 12, 13, 14, 15, 16, 17, 18, 19, 20, 21, 22, 23, 24] rfl rfl rfl rfl rfl hk1 hFc hP1 hD1
    clear hP1 hD1 hk1 hFc
    generalize H1 = H at hP hS ⊢
    have hP9 := hP
    have hD9 := hD
    have hS9 := hS
    subst hQ
    cases h
    exact W.iret hx hb hr (fun t ht hW => ⟨⟨_, (), rfl, rfl, by rw [ht]; exact hP9, va_K.moved hW.alike hK, hD9⟩, hS9.F ht⟩) hS9.2.2 dX6_together_43
  · replace h := sf_t c4 h
    cases h
def fX6_input (v1 : Int32) (v2 : Int32) (Iestimates : Nat → Int32) (Ivariances : Nat → Int32) (Isorts : Nat → Int32) (Iwidths : Nat → Int32) (Icounts : Nat → Int32) : Option (Int32) := bnd0 (fX6_checkInput v1) (bnd0 (fX6_checkRange v2 0 4) ((if v2 = 0 then gi v1 6 (some (Iestimates v1.toNatClampNeg)) else if v2 = 1 then gi v1 6 (some (Ivariances v1.toNatClampNeg)) else if v2 = 2 then gi v1 6 (some (Isorts v1.toNatClampNeg)) else if v2 = 3 then bnd1 (fX4_degreesOf v1 Icounts) (fun r10 => some (r10)) else bnd1 (fX4_widthOrCount v1 Isorts Iwidths Icounts) (fun r11 => some (r11)))))
abbrev rmX6_input : Room := { frames := 1, cells := 0, slots := 0, locals := 22 }

set_option maxHeartbeats 40000000 in
set_option maxRecDepth 100000 in
theorem met_X6_input (l : Launch) (D : va_G) (k : Nat → ClassId) (xL xS xB xV xC : Nat) (aU : Nat → Nat) (aI : Nat → Nat) (sz : Nat) (Uformulas : Nat → Option Nat) (Udrawn : Nat → Int32) (Umodels : Int32) (Iestimates : Nat → Int32) (Ivariances : Nat → Int32) (Isorts : Nat → Int32) (Iwidths : Nat → Int32) (Icounts : Nat → Int32) (Ireadings : Nat → Nat → Int32) (Ifirsts : Nat → Int32) (Iseconds : Nat → Int32) (Icovariances : Nat → Nat → Int32) (v1 : Int32) (v2 : Int32) (r : Int32) (h : fX6_input v1 v2 Iestimates Ivariances Isorts Iwidths Icounts = some r) : Met l yX6_input wsX6_input rmX6_input (va_Pc [.ref (aU 0), .int v1, .int v2] (PreW D k ((wU k aU (aI 0) xL xS xB xV xC Uformulas Udrawn Umodels) ++ (wI k aI Iestimates Ivariances Isorts Iwidths Icounts Ireadings Ifirsts Iseconds Icovariances)) sz)) (va_Qi (fun r9 (_ : Unit) => r9 = r) (fun _ t => PostW D k (va_A ((wU k aU (aI 0) xL xS xB xV xC Uformulas Udrawn Umodels) ++ (wI k aI Iestimates Ivariances Isorts Iwidths Icounts Ireadings Ifirsts Iseconds Icovariances)) sz) ((wU k aU (aI 0) xL xS xB xV xC Uformulas Udrawn Umodels) ++ (wI k aI Iestimates Ivariances Isorts Iwidths Icounts Ireadings Ifirsts Iseconds Icovariances)) t) (va_A ((wU k aU (aI 0) xL xS xB xV xC Uformulas Udrawn Umodels) ++ (wI k aI Iestimates Ivariances Isorts Iwidths Icounts Ireadings Ifirsts Iseconds Icovariances)) sz)) 0 0 (va_A ((wU k aU (aI 0) xL xS xB xV xC Uformulas Udrawn Umodels) ++ (wI k aI Iestimates Ivariances Isorts Iwidths Icounts Ireadings Ifirsts Iseconds Icovariances)) sz) := by
  refine Met.ofW (cc := cX6_input) (maxL := 3) (ret := (some .int)) (by decide) rfl ?_
  intro p e s m args below meth c s₁ B hml hv
  obtain ⟨hav, hsz, hP, hK, hD0⟩ := hv
  have hx := B.exec
  have hb := B.bytes
  have hr := B.returns
  have hts := atoms_spec (ws := wsX6_input) B.pre
  have hown : s.vm.findClass RX6 = some m.cls := findClass_of_methodNamed B.named
  have hlocks := B.notSynchronized
  subst hsz
  have hD := hD0.self (sz := s.heap.size)
  clear hD0
  generalize hAe : va_A ((wU k aU (aI 0) xL xS xB xV xC Uformulas Udrawn Umodels) ++ (wI k aI Iestimates Ivariances Isorts Iwidths Icounts Ireadings Ifirsts Iseconds Icovariances)) s.heap.size = A at hD ⊢
  have hA : ∀ q : Nat, s.heap.size ≤ q → A q := fun q h => by rw [← hAe]; exact Or.inr h
  have hS : va_S A s.heap s.heap [] := va_S.rf
  have hl := lv_entry ([.ref (aU 0), .int v1, .int v2]) (n := 3) (Nat.le_of_ble_eq_true rfl)
  rw [show entryFrame m args 3 = entryFrame m ([.ref (aU 0), .int v1, .int v2] : List Value).toArray 3 from by rw [hav], lg_entry_eq]
  generalize (lg_sl ([.ref (aU 0), .int v1, .int v2]) ++ List.replicate (3 - (lg_sl ([.ref (aU 0), .int v1, .int v2])).length) Slot.unset).toArray = ls at hl ⊢
  replace hl : lv_has ls 3 [(0, .ref (aU 0)), (1, .int v1), (2, .int v2)] := hl
  have f10 := hts (.fieldLink RX6 10 "UncertainBook" "inputs" "LUncertainBook$Inputs;") (by decide +kernel)
  have f108 := hts (.fieldLink RX6 108 "UncertainBook$Inputs" "estimates" "[I") (by decide +kernel)
  have f111 := hts (.fieldLink RX6 111 "UncertainBook$Inputs" "variances" "[I") (by decide +kernel)
  have f114 := hts (.fieldLink RX6 114 "UncertainBook$Inputs" "sorts" "[I") (by decide +kernel)
  have iX4 : ∀ w ∈ u_ws RX4 TX4 9, w ∈ wsX6_input := by decide +kernel
  have iX6 : ∀ w ∈ u_ws RX6 TX6 9, w ∈ wsX6_input := by decide +kernel
  refine w_q (fun Q hQ => ?_)
  unfold fX6_input at h
  show W p l e rmX6_input s m args below meth c s.heap [] 0 0 Q (F0 m 0 ls [])
  suffices main : ∀ (H : Heap) (locs : List Loc) (ls : Array Slot), va_P D vwCl ((wU k aU (aI 0) xL xS xB xV xC Uformulas Udrawn Umodels) ++ (wI k aI Iestimates Ivariances Isorts Iwidths Icounts Ireadings Ifirsts Iseconds Icovariances)) H → va_D A ((wU k aU (aI 0) xL xS xB xV xC Uformulas Udrawn Umodels) ++ (wI k aI Iestimates Ivariances Isorts Iwidths Icounts Ireadings Ifirsts Iseconds Icovariances)) → va_S A s.heap H locs → lv_has ls 3 [(0, .ref (aU 0)), (1, .int v1), (2, .int v2)] → W p l e rmX6_input s m args below meth c H locs 0 0 Q (F0 m 0 ls []) from main _ _ _ hP hD hS hl
  clear hP hD hS hl ls hAe
  intro H locs ls hP hD hS hl
  refine lv_iload_n hx hb dX6_input_0 rfl (lv_at hl 1 rfl) ?_
  obtain ⟨hc1, h⟩ := bnd0_inv h
  have hPc := hP.sub (ws' := ([] : va_W)) [] rfl
  have hDc := hD.sub (ws' := ([] : va_W)) [] rfl rfl
  have hFc := va_free (wc := ([] : va_W)) hD hS hA [] rfl
  refine xc_v (va_runS (As := [.int v1]) (rest := []) ⟨hx, hb, hml, hown, hts⟩ (met_X6_checkInput l D k  H.size v1 hc1) (va_cwS 1 hts gX6_input_X6_checkInput rfl rfl rfl (by decide +kernel) ⟨Nat.le_of_ble_eq_true rfl, Nat.le_of_ble_eq_true rfl⟩) ⟨pw_blind, pw_start hPc hK hDc⟩ rfl rfl hl.1 rfl (lv_room (Nat.le_of_ble_eq_true rfl)) dX6_input_1 ⟨Nat.zero_le _, Nat.zero_le _⟩) hS hFc (fun H1 locs hP1 hD1 hk1 hS => ?_)
  obtain ⟨hP, hD⟩ := vk hP hD [] rfl hk1 hP1
  clear hP1 hD1 hk1 hFc
  generalize H1 = H at hP hS ⊢
  refine lv_iload_n hx hb dX6_input_4 rfl (lv_at hl 2 rfl) ?_
  refine lv_iconst (v := 0) hx hb dX6_input_5 (by decide) ?_
  refine lv_iconst (v := 4) hx hb dX6_input_6 (by decide) ?_
  obtain ⟨hc2, h⟩ := bnd0_inv h
  have hPc := hP.sub (ws' := ([] : va_W)) [] rfl
  have hDc := hD.sub (ws' := ([] : va_W)) [] rfl rfl
  have hFc := va_free (wc := ([] : va_W)) hD hS hA [] rfl
  refine xc_v (va_runS (As := [.int v2, .int 0, .int 4]) (rest := []) ⟨hx, hb, hml, hown, hts⟩ (met_X6_checkRange l D k  H.size v2 0 4 hc2) (va_cwS 3 hts gX6_input_X6_checkRange rfl rfl rfl (by decide +kernel) ⟨Nat.le_of_ble_eq_true rfl, Nat.le_of_ble_eq_true rfl⟩) ⟨pw_blind, pw_start hPc hK hDc⟩ rfl rfl hl.1 rfl (lv_room (Nat.le_of_ble_eq_true rfl)) dX6_input_7 ⟨Nat.zero_le _, Nat.zero_le _⟩) hS hFc (fun H1 locs hP1 hD1 hk1 hS => ?_)
  obtain ⟨hP, hD⟩ := vk hP hD [] rfl hk1 hP1
  clear hP1 hD1 hk1 hFc
  generalize H1 = H at hP hS ⊢
  refine lv_iload_n hx hb dX6_input_10 rfl (lv_at hl 2 rfl) ?_
  rcases Decidable.em (v2 = 0) with c3 | c3
  · replace h := sf_t c3 h
    refine lv_tableIn (off := 29) (tgt := 40) hx hb dX6_input_11 (by rw [c3]; decide) (by rw [c3]; decide) (by rw [c3]; rfl) (by decide) ?_
    refine lv_aload_n hx hb dX6_input_40 rfl (lv_at hl 0 rfl) ?_
    refine va_get (D := D) (ci := 6) (v := .ref (aI 0)) (C := RX6) (T := TX6) (N := 9) hx hb hts iX6 hown hK hP 0 rfl rfl 0 (by decide) f10 (fun _ h9 => h9) rfl dX6_input_41 ?_
    refine va_get (D := D) (ci := 4) (v := .ref (aI 1)) (C := RX4) (T := TX4) (N := 9) hx hb hts iX4 hown hK hP 3 rfl rfl 0 (by decide) f108 (fun _ h9 => h9) rfl dX6_input_44 ?_
    refine lv_iload_n hx hb dX6_input_47 rfl (lv_at hl 1 rfl) ?_
    obtain ⟨hi4, h⟩ := gi_inv h
    refine va_iald hx hb hK hP 4 0 rfl rfl hi4 dX6_input_48 ?_
    have hP9 := hP
    have hD9 := hD
    have hS9 := hS
    subst hQ
    cases h
    exact W.iret hx hb hr (fun t ht hW => ⟨⟨_, (), rfl, rfl, by rw [ht]; exact hP9, va_K.moved hW.alike hK, hD9⟩, hS9.F ht⟩) hS9.2.2 dX6_input_49
  replace h := sf_f c3 h
  rcases Decidable.em (v2 = 1) with c5 | c5
  · replace h := sf_t c5 h
    refine lv_tableIn (off := 39) (tgt := 50) hx hb dX6_input_11 (by rw [c5]; decide) (by rw [c5]; decide) (by rw [c5]; rfl) (by decide) ?_
    refine lv_aload_n hx hb dX6_input_50 rfl (lv_at hl 0 rfl) ?_
    refine va_get (D := D) (ci := 6) (v := .ref (aI 0)) (C := RX6) (T := TX6) (N := 9) hx hb hts iX6 hown hK hP 0 rfl rfl 0 (by decide) f10 (fun _ h9 => h9) rfl dX6_input_51 ?_
    refine va_get (D := D) (ci := 4) (v := .ref (aI 2)) (C := RX4) (T := TX4) (N := 9) hx hb hts iX4 hown hK hP 3 rfl rfl 1 (by decide) f111 (fun _ h9 => h9) rfl dX6_input_54 ?_
    refine lv_iload_n hx hb dX6_input_57 rfl (lv_at hl 1 rfl) ?_
    obtain ⟨hi6, h⟩ := gi_inv h
    refine va_iald hx hb hK hP 5 0 rfl rfl hi6 dX6_input_58 ?_
    have hP9 := hP
    have hD9 := hD
    have hS9 := hS
    subst hQ
    cases h
    exact W.iret hx hb hr (fun t ht hW => ⟨⟨_, (), rfl, rfl, by rw [ht]; exact hP9, va_K.moved hW.alike hK, hD9⟩, hS9.F ht⟩) hS9.2.2 dX6_input_59
  replace h := sf_f c5 h
  rcases Decidable.em (v2 = 2) with c7 | c7
  · replace h := sf_t c7 h
    refine lv_tableIn (off := 49) (tgt := 60) hx hb dX6_input_11 (by rw [c7]; decide) (by rw [c7]; decide) (by rw [c7]; rfl) (by decide) ?_
    refine lv_aload_n hx hb dX6_input_60 rfl (lv_at hl 0 rfl) ?_
    refine va_get (D := D) (ci := 6) (v := .ref (aI 0)) (C := RX6) (T := TX6) (N := 9) hx hb hts iX6 hown hK hP 0 rfl rfl 0 (by decide) f10 (fun _ h9 => h9) rfl dX6_input_61 ?_
    refine va_get (D := D) (ci := 4) (v := .ref (aI 3)) (C := RX4) (T := TX4) (N := 9) hx hb hts iX4 hown hK hP 3 rfl rfl 2 (by decide) f114 (fun _ h9 => h9) rfl dX6_input_64 ?_
    refine lv_iload_n hx hb dX6_input_67 rfl (lv_at hl 1 rfl) ?_
    obtain ⟨hi8, h⟩ := gi_inv h
    refine va_iald hx hb hK hP 6 0 rfl rfl hi8 dX6_input_68 ?_
    have hP9 := hP
    have hD9 := hD
    have hS9 := hS
    subst hQ
    cases h
    exact W.iret hx hb hr (fun t ht hW => ⟨⟨_, (), rfl, rfl, by rw [ht]; exact hP9, va_K.moved hW.alike hK, hD9⟩, hS9.F ht⟩) hS9.2.2 dX6_input_69
  replace h := sf_f c7 h
  rcases Decidable.em (v2 = 3) with c9 | c9
  · replace h := sf_t c9 h
    refine lv_tableIn (off := 59) (tgt := 70) hx hb dX6_input_11 (by rw [c9]; decide) (by rw [c9]; decide) (by rw [c9]; rfl) (by decide) ?_
    refine lv_aload_n hx hb dX6_input_70 rfl (lv_at hl 0 rfl) ?_
    refine va_get (D := D) (ci := 6) (v := .ref (aI 0)) (C := RX6) (T := TX6) (N := 9) hx hb hts iX6 hown hK hP 0 rfl rfl 0 (by decide) f10 (fun _ h9 => h9) rfl dX6_input_71 ?_
    refine lv_iload_n hx hb dX6_input_74 rfl (lv_at hl 1 rfl) ?_
    obtain ⟨r10, hc10, h⟩ := bnd1_inv h
    have hPc := hP.sub (ws' := (wI k aI Iestimates Ivariances Isorts Iwidths Icounts Ireadings Ifirsts Iseconds Icovariances)) [3, 4, 5, 6, 7, 8, 9, 10, 11, 12, 13, 14, 15, 16, 17, 18, 19, 20, 21, 22, 23, 24] rfl
    have hDc := hD.sub (ws' := (wI k aI Iestimates Ivariances Isorts Iwidths Icounts Ireadings Ifirsts Iseconds Icovariances)) [3, 4, 5, 6, 7, 8, 9, 10, 11, 12, 13, 14, 15, 16, 17, 18, 19, 20, 21, 22, 23, 24] rfl rfl
    have hFc := va_free (wc := (wI k aI Iestimates Ivariances Isorts Iwidths Icounts Ireadings Ifirsts Iseconds Icovariances)) hD hS hA [3, 4, 5, 6, 7, 8, 9, 10, 11, 12, 13, 14, 15, 16, 17, 18, 19, 20, 21, 22, 23, 24] rfl
    refine xc_i (va_runV (As := [.int v1]) (rest := []) ⟨hx, hb, hml, hown, hts⟩ (met_X4_degreesOf l D k  aI H.size Iestimates Ivariances Isorts Iwidths Icounts Ireadings Ifirsts Iseconds Icovariances v1 r10 hc10) (cwV 1 hts gX6_input_X4_degreesOf rfl rfl rfl (by decide +kernel) ⟨Nat.le_of_ble_eq_true rfl, Nat.le_of_ble_eq_true rfl⟩) ⟨pw_blind, va_recv hK hPc (ci := 4) (q0 := 0) rfl rfl, pw_start hPc hK hDc⟩ rfl rfl hl.1 rfl (lv_room (Nat.le_of_ble_eq_true rfl)) dX6_input_75 ⟨Nat.zero_le _, Nat.zero_le _⟩) hS hFc (fun H1 locs hP1 hD1 hk1 hS => ?_)
    obtain ⟨hP, hD⟩ := vk hP hD [3, 4, 5, 6, 7, 8, 9, 10, 11, 12, 13, 14, 15, 16, 17, 18, 19, 20, 21, 22, 23, 24] rfl hk1 hP1
    clear hP1 hD1 hk1 hFc
    generalize H1 = H at hP hS ⊢
    have hP9 := hP
    have hD9 := hD
    have hS9 := hS
    subst hQ
    cases h
    exact W.iret hx hb hr (fun t ht hW => ⟨⟨_, (), rfl, rfl, by rw [ht]; exact hP9, va_K.moved hW.alike hK, hD9⟩, hS9.F ht⟩) hS9.2.2 dX6_input_78
  replace h := sf_f c9 h
  refine lv_tableOut (tgt := 79) hx hb dX6_input_11 (by have z0 := lv_neT (a := 0) c3 rfl; have z1 := lv_neT (a := 1) c5 rfl; have z2 := lv_neT (a := 2) c7 rfl; have z3 := lv_neT (a := 3) c9 rfl; omega) (by decide) ?_
  refine lv_aload_n hx hb dX6_input_79 rfl (lv_at hl 0 rfl) ?_
  refine va_get (D := D) (ci := 6) (v := .ref (aI 0)) (C := RX6) (T := TX6) (N := 9) hx hb hts iX6 hown hK hP 0 rfl rfl 0 (by decide) f10 (fun _ h9 => h9) rfl dX6_input_80 ?_
  refine lv_iload_n hx hb dX6_input_83 rfl (lv_at hl 1 rfl) ?_
  obtain ⟨r11, hc11, h⟩ := bnd1_inv h
  have hPc := hP.sub (ws' := (wI k aI Iestimates Ivariances Isorts Iwidths Icounts Ireadings Ifirsts Iseconds Icovariances)) [3, 4, 5, 6, 7, 8, 9, 10, 11, 12, 13, 14, 15, 16, 17, 18, 19, 20, 21, 22, 23, 24] rfl
  have hDc := hD.sub (ws' := (wI k aI Iestimates Ivariances Isorts Iwidths Icounts Ireadings Ifirsts Iseconds Icovariances)) [3, 4, 5, 6, 7, 8, 9, 10, 11, 12, 13, 14, 15, 16, 17, 18, 19, 20, 21, 22, 23, 24] rfl rfl
  have hFc := va_free (wc := (wI k aI Iestimates Ivariances Isorts Iwidths Icounts Ireadings Ifirsts Iseconds Icovariances)) hD hS hA [3, 4, 5, 6, 7, 8, 9, 10, 11, 12, 13, 14, 15, 16, 17, 18, 19, 20, 21, 22, 23, 24] rfl
  refine xc_i (va_runV (As := [.int v1]) (rest := []) ⟨hx, hb, hml, hown, hts⟩ (met_X4_widthOrCount l D k  aI H.size Iestimates Ivariances Isorts Iwidths Icounts Ireadings Ifirsts Iseconds Icovariances v1 r11 hc11) (cwV 1 hts gX6_input_X4_widthOrCount rfl rfl rfl (by decide +kernel) ⟨Nat.le_of_ble_eq_true rfl, Nat.le_of_ble_eq_true rfl⟩) ⟨pw_blind, va_recv hK hPc (ci := 4) (q0 := 0) rfl rfl, pw_start hPc hK hDc⟩ rfl rfl hl.1 rfl (lv_room (Nat.le_of_ble_eq_true rfl)) dX6_input_84 ⟨Nat.zero_le _, Nat.zero_le _⟩) hS hFc (fun H1 locs hP1 hD1 hk1 hS => ?_)
  obtain ⟨hP, hD⟩ := vk hP hD [3, 4, 5, 6, 7, 8, 9, 10, 11, 12, 13, 14, 15, 16, 17, 18, 19, 20, 21, 22, 23, 24] rfl hk1 hP1
  clear hP1 hD1 hk1 hFc
  generalize H1 = H at hP hS ⊢
  have hP9 := hP
  have hD9 := hD
  have hS9 := hS
  subst hQ
  cases h
  exact W.iret hx hb hr (fun t ht hW => ⟨⟨_, (), rfl, rfl, by rw [ht]; exact hP9, va_K.moved hW.alike hK, hD9⟩, hS9.F ht⟩) hS9.2.2 dX6_input_87
def fX6_type (v1 : Int64) (Lsigns : Nat → Int32) (Llength : Int32) : Option (Int32 × (Nat → Int32) × Int32) := bnd1 (fX5_countSigns v1) (fun r1 => (if r1 = ((-1)) then none else (if (Llength + r1) ≤ 60 then bnd2 (fX5_append v1 r1 Lsigns Llength) (fun signs_4 length_4 => some (length_4, signs_4, length_4)) else none)))
abbrev rmX6_type : Room := { frames := 2, cells := 0, slots := 0, locals := 46 }

set_option maxHeartbeats 40000000 in
set_option maxRecDepth 100000 in
theorem met_X6_type (l : Launch) (D : va_G) (k : Nat → ClassId) (xI xS xB xV xC : Nat) (aU : Nat → Nat) (aL : Nat → Nat) (sz : Nat) (Uformulas : Nat → Option Nat) (Udrawn : Nat → Int32) (Umodels : Int32) (Lsigns : Nat → Int32) (Llength : Int32) (Lat : Int32) (v1 : Int64) (r : Int32) (RLsigns : Nat → Int32) (RLlength : Int32) (h : fX6_type v1 Lsigns Llength = some (r, RLsigns, RLlength)) : Met l yX6_type wsX6_type rmX6_type (va_Pc [.ref (aU 0), .long v1] (PreW D k ((wU k aU xI (aL 0) xS xB xV xC Uformulas Udrawn Umodels) ++ (wL k aL Lsigns Llength Lat)) sz)) (va_Qi (fun r9 (_ : Unit) => r9 = r) (fun _ t => PostW D k (va_A ((wU k aU xI (aL 0) xS xB xV xC Uformulas Udrawn Umodels) ++ (wL k aL Lsigns Llength Lat)) sz) ((wU k aU xI (aL 0) xS xB xV xC Uformulas Udrawn Umodels) ++ (wL k aL RLsigns RLlength Lat)) t) (va_A ((wU k aU xI (aL 0) xS xB xV xC Uformulas Udrawn Umodels) ++ (wL k aL Lsigns Llength Lat)) sz)) 0 0 (va_A ((wU k aU xI (aL 0) xS xB xV xC Uformulas Udrawn Umodels) ++ (wL k aL Lsigns Llength Lat)) sz) := by
  refine Met.ofW (cc := cX6_type) (maxL := 4) (ret := (some .int)) (by decide) rfl ?_
  intro p e s m args below meth c s₁ B hml hv
  obtain ⟨hav, hsz, hP, hK, hD0⟩ := hv
  have hx := B.exec
  have hb := B.bytes
  have hr := B.returns
  have hts := atoms_spec (ws := wsX6_type) B.pre
  have hown : s.vm.findClass RX6 = some m.cls := findClass_of_methodNamed B.named
  have hlocks := B.notSynchronized
  subst hsz
  have hD := hD0.self (sz := s.heap.size)
  clear hD0
  generalize hAe : va_A ((wU k aU xI (aL 0) xS xB xV xC Uformulas Udrawn Umodels) ++ (wL k aL Lsigns Llength Lat)) s.heap.size = A at hD ⊢
  have hA : ∀ q : Nat, s.heap.size ≤ q → A q := fun q h => by rw [← hAe]; exact Or.inr h
  have hS : va_S A s.heap s.heap [] := va_S.rf
  have hl := lv_entry ([.ref (aU 0), .long v1]) (n := 4) (Nat.le_of_ble_eq_true rfl)
  rw [show entryFrame m args 4 = entryFrame m ([.ref (aU 0), .long v1] : List Value).toArray 4 from by rw [hav], lg_entry_eq]
  generalize (lg_sl ([.ref (aU 0), .long v1]) ++ List.replicate (4 - (lg_sl ([.ref (aU 0), .long v1])).length) Slot.unset).toArray = ls at hl ⊢
  replace hl : lv_has ls 4 [(0, .ref (aU 0)), (1, .long v1)] := hl
  have f19 := hts (.fieldLink RX6 19 "UncertainBook" "line" "LUncertainBook$Line;") (by decide +kernel)
  have f130 := hts (.fieldLink RX6 130 "UncertainBook$Line" "length" "I") (by decide +kernel)
  have iX5 : ∀ w ∈ u_ws RX5 TX5 3, w ∈ wsX6_type := by decide +kernel
  have iX6 : ∀ w ∈ u_ws RX6 TX6 9, w ∈ wsX6_type := by decide +kernel
  refine w_q (fun Q hQ => ?_)
  unfold fX6_type at h
  show W p l e rmX6_type s m args below meth c s.heap [] 0 0 Q (F0 m 0 ls [])
  suffices main : ∀ (H : Heap) (locs : List Loc) (ls : Array Slot), va_P D vwCl ((wU k aU xI (aL 0) xS xB xV xC Uformulas Udrawn Umodels) ++ (wL k aL Lsigns Llength Lat)) H → va_D A ((wU k aU xI (aL 0) xS xB xV xC Uformulas Udrawn Umodels) ++ (wL k aL Lsigns Llength Lat)) → va_S A s.heap H locs → lv_has ls 4 [(0, .ref (aU 0)), (1, .long v1)] → W p l e rmX6_type s m args below meth c H locs 0 0 Q (F0 m 0 ls []) from main _ _ _ hP hD hS hl
  clear hP hD hS hl ls hAe
  intro H locs ls hP hD hS hl
  refine lv_lload_n hx hb dX6_type_0 rfl (lv_at hl 1 rfl) ?_
  obtain ⟨r1, hc1, h⟩ := bnd1_inv h
  have hPc := hP.sub (ws' := ([] : va_W)) [] rfl
  have hDc := hD.sub (ws' := ([] : va_W)) [] rfl rfl
  have hFc := va_free (wc := ([] : va_W)) hD hS hA [] rfl
  refine xc_i (va_runS (As := [.long v1]) (rest := []) ⟨hx, hb, hml, hown, hts⟩ (met_X5_countSigns l D k  H.size v1 r1 hc1) (va_cwS 1 hts gX6_type_X5_countSigns rfl rfl rfl (by decide +kernel) ⟨Nat.le_of_ble_eq_true rfl, Nat.le_of_ble_eq_true rfl⟩) ⟨pw_blind, pw_start hPc hK hDc⟩ rfl rfl hl.1 rfl (lv_room (Nat.le_of_ble_eq_true rfl)) dX6_type_1 ⟨Nat.zero_le _, Nat.zero_le _⟩) hS hFc (fun H1 locs hP1 hD1 hk1 hS => ?_)
  obtain ⟨hP, hD⟩ := vk hP hD [] rfl hk1 hP1
  clear hP1 hD1 hk1 hFc
  generalize H1 = H at hP hS ⊢
  refine lv_istore_n (lv' := [(3, .int r1), (0, .ref (aU 0)), (1, .long v1)]) hx hb dX6_type_4 rfl hl (by decide) rfl (fun ls hl => ?_)
  refine lv_iload_n hx hb dX6_type_5 rfl (lv_at hl 0 rfl) ?_
  refine lv_iconst (v := -1) hx hb dX6_type_6 (by decide) ?_
  refine lv_icmp_ne (tgt := 20) hx hb dX6_type_7 (by decide) (fun c2 => ?_) (fun c2 => ?_)
  · replace h := sf_f c2 h
    refine lv_aload_n hx hb dX6_type_20 rfl (lv_at hl 1 rfl) ?_
    refine va_get (D := D) (ci := 6) (v := .ref (aL 0)) (C := RX6) (T := TX6) (N := 9) hx hb hts iX6 hown hK hP 0 rfl rfl 1 (by decide) f19 (fun _ h9 => h9) rfl dX6_type_21 ?_
    refine va_get (D := D) (ci := 5) (v := .int Llength) (C := RX5) (T := TX5) (N := 3) hx hb hts iX5 hown hK hP 3 rfl rfl 1 (by decide) f130 (fun _ h9 => h9) rfl dX6_type_24 ?_
    refine lv_iload_n hx hb dX6_type_27 rfl (lv_at hl 0 rfl) ?_
    refine lv_iadd hx hb dX6_type_28 ?_
    refine lv_bipush (v := 60) hx hb dX6_type_29 (by decide) ?_
    refine lv_icmp_le (tgt := 44) hx hb dX6_type_31 (by decide) (fun c3 => ?_) (fun c3 => ?_)
    · replace h := sf_t c3 h
      refine lv_aload_n hx hb dX6_type_44 rfl (lv_at hl 1 rfl) ?_
      refine va_get (D := D) (ci := 6) (v := .ref (aL 0)) (C := RX6) (T := TX6) (N := 9) hx hb hts iX6 hown hK hP 0 rfl rfl 1 (by decide) f19 (fun _ h9 => h9) rfl dX6_type_45 ?_
      refine lv_lload_n hx hb dX6_type_48 rfl (lv_at hl 2 rfl) ?_
      refine lv_iload_n hx hb dX6_type_49 rfl (lv_at hl 0 rfl) ?_
      obtain ⟨signs_4, length_4, hc4, h⟩ := bnd2_inv h
      have hPc := hP.sub (ws' := (wL k aL Lsigns Llength Lat)) [3, 4] rfl
      have hDc := hD.sub (ws' := (wL k aL Lsigns Llength Lat)) [3, 4] rfl rfl
      have hFc := va_free (wc := (wL k aL Lsigns Llength Lat)) hD hS hA [3, 4] rfl
      refine xc_v (va_runV (As := [.long v1, .int r1]) (rest := []) ⟨hx, hb, hml, hown, hts⟩ (met_X5_append l D k  aL H.size Lsigns Llength Lat v1 r1 signs_4 length_4 hc4) (cwV 2 hts gX6_type_X5_append rfl rfl rfl (by decide +kernel) ⟨Nat.le_of_ble_eq_true rfl, Nat.le_of_ble_eq_true rfl⟩) ⟨pw_blind, va_recv hK hPc (ci := 5) (q0 := 0) rfl rfl, pw_start hPc hK hDc⟩ rfl rfl hl.1 rfl (lv_room (Nat.le_of_ble_eq_true rfl)) dX6_type_50 ⟨Nat.zero_le _, Nat.zero_le _⟩) hS hFc (fun H1 locs hP1 hD1 hk1 hS => ?_)
      obtain ⟨hP, hD⟩ := vj (ws' := ((wU k aU xI (aL 0) xS xB xV xC Uformulas Udrawn Umodels) ++ (wL k aL signs_4 length_4 Lat))) (w1 := (wL k aL signs_4 length_4 Lat)) hP hD [3, 4] [0, 1, 2] [0, 1, 2, 3, 4] rfl rfl rfl rfl rfl hk1 hFc hP1 hD1
      clear hP1 hD1 hk1 hFc
      generalize H1 = H at hP hS ⊢
      refine lv_aload_n hx hb dX6_type_53 rfl (lv_at hl 1 rfl) ?_
      refine va_get (D := D) (ci := 6) (v := .ref (aL 0)) (C := RX6) (T := TX6) (N := 9) hx hb hts iX6 hown hK hP 0 rfl rfl 1 (by decide) f19 (fun _ h9 => h9) rfl dX6_type_54 ?_
      refine va_get (D := D) (ci := 5) (v := .int length_4) (C := RX5) (T := TX5) (N := 3) hx hb hts iX5 hown hK hP 3 rfl rfl 1 (by decide) f130 (fun _ h9 => h9) rfl dX6_type_57 ?_
      have hP9 := hP
      have hD9 := hD
      have hS9 := hS
      subst hQ
      cases h
      exact W.iret hx hb hr (fun t ht hW => ⟨⟨_, (), rfl, rfl, by rw [ht]; exact hP9, va_K.moved hW.alike hK, hD9⟩, hS9.F ht⟩) hS9.2.2 dX6_type_60
    · replace h := sf_f c3 h
      cases h
  · replace h := sf_t c2 h
    cases h
def BX6_table_65 (v1 : Int32) (v2 : Int32)  (Vdegrees : Nat → Int32) (Vfactors : Nat → Int32) (Vcount : Int32) : Option (Int32 × (Nat → Int32) × (Nat → Int32) × Int32) := some (Vcount, Vdegrees, Vfactors, Vcount)
def fX6_table (v1 : Int32) (v2 : Int32) (Vdegrees : Nat → Int32) (Vfactors : Nat → Int32) (Vcount : Int32) : Option (Int32 × (Nat → Int32) × (Nat → Int32) × Int32) := bnd0 (fX6_checkRange v1 1 9999) (bnd0 (fX6_checkRange v2 ((-1)) 999) ((if v2 = ((-1)) then bnd3 (fX2_remove v1 Vdegrees Vfactors Vcount) (fun degrees_7 factors_7 count_7 => BX6_table_65 v1 v2 degrees_7 factors_7 count_7) else bnd1 (fX2_hasRoomFor v1 Vdegrees Vcount) (fun r4 => (if r4 = 0 then none else bnd3 (fX2_put v1 v2 Vdegrees Vfactors Vcount) (fun degrees_6 factors_6 count_6 => BX6_table_65 v1 v2 degrees_6 factors_6 count_6))))))
abbrev rmX6_table : Room := { frames := 2, cells := 0, slots := 0, locals := 45 }

set_option maxHeartbeats 40000000 in
set_option maxRecDepth 100000 in
theorem met_X6_table (l : Launch) (D : va_G) (k : Nat → ClassId) (xI xL xS xB xC : Nat) (aU : Nat → Nat) (aV : Nat → Nat) (sz : Nat) (Uformulas : Nat → Option Nat) (Udrawn : Nat → Int32) (Umodels : Int32) (Vdegrees : Nat → Int32) (Vfactors : Nat → Int32) (Vcount : Int32) (v1 : Int32) (v2 : Int32) (r : Int32) (RVdegrees : Nat → Int32) (RVfactors : Nat → Int32) (RVcount : Int32) (h : fX6_table v1 v2 Vdegrees Vfactors Vcount = some (r, RVdegrees, RVfactors, RVcount)) : Met l yX6_table wsX6_table rmX6_table (va_Pc [.ref (aU 0), .int v1, .int v2] (PreW D k ((wU k aU xI xL xS xB (aV 0) xC Uformulas Udrawn Umodels) ++ (wV k aV Vdegrees Vfactors Vcount)) sz)) (va_Qi (fun r9 (_ : Unit) => r9 = r) (fun _ t => PostW D k (va_A ((wU k aU xI xL xS xB (aV 0) xC Uformulas Udrawn Umodels) ++ (wV k aV Vdegrees Vfactors Vcount)) sz) ((wU k aU xI xL xS xB (aV 0) xC Uformulas Udrawn Umodels) ++ (wV k aV RVdegrees RVfactors RVcount)) t) (va_A ((wU k aU xI xL xS xB (aV 0) xC Uformulas Udrawn Umodels) ++ (wV k aV Vdegrees Vfactors Vcount)) sz)) 0 0 (va_A ((wU k aU xI xL xS xB (aV 0) xC Uformulas Udrawn Umodels) ++ (wV k aV Vdegrees Vfactors Vcount)) sz) := by
  refine Met.ofW (cc := cX6_table) (maxL := 3) (ret := (some .int)) (by decide) rfl ?_
  intro p e s m args below meth c s₁ B hml hv
  obtain ⟨hav, hsz, hP, hK, hD0⟩ := hv
  have hx := B.exec
  have hb := B.bytes
  have hr := B.returns
  have hts := atoms_spec (ws := wsX6_table) B.pre
  have hown : s.vm.findClass RX6 = some m.cls := findClass_of_methodNamed B.named
  have hlocks := B.notSynchronized
  subst hsz
  have hD := hD0.self (sz := s.heap.size)
  clear hD0
  generalize hAe : va_A ((wU k aU xI xL xS xB (aV 0) xC Uformulas Udrawn Umodels) ++ (wV k aV Vdegrees Vfactors Vcount)) s.heap.size = A at hD ⊢
  have hA : ∀ q : Nat, s.heap.size ≤ q → A q := fun q h => by rw [← hAe]; exact Or.inr h
  have hS : va_S A s.heap s.heap [] := va_S.rf
  have hl := lv_entry ([.ref (aU 0), .int v1, .int v2]) (n := 3) (Nat.le_of_ble_eq_true rfl)
  rw [show entryFrame m args 3 = entryFrame m ([.ref (aU 0), .int v1, .int v2] : List Value).toArray 3 from by rw [hav], lg_entry_eq]
  generalize (lg_sl ([.ref (aU 0), .int v1, .int v2]) ++ List.replicate (3 - (lg_sl ([.ref (aU 0), .int v1, .int v2])).length) Slot.unset).toArray = ls at hl ⊢
  replace hl : lv_has ls 3 [(0, .ref (aU 0)), (1, .int v1), (2, .int v2)] := hl
  have f48 := hts (.fieldLink RX6 48 "UncertainBook" "coverage" "LUncertainBook$Coverage;") (by decide +kernel)
  have f229 := hts (.fieldLink RX6 229 "UncertainBook$Coverage" "count" "I") (by decide +kernel)
  have iX2 : ∀ w ∈ u_ws RX2 TX2 3, w ∈ wsX6_table := by decide +kernel
  have iX6 : ∀ w ∈ u_ws RX6 TX6 9, w ∈ wsX6_table := by decide +kernel
  refine w_q (fun Q hQ => ?_)
  unfold fX6_table at h
  show W p l e rmX6_table s m args below meth c s.heap [] 0 0 Q (F0 m 0 ls [])
  have BH_65 : ∀ (Vdegrees : Nat → Int32) (Vfactors : Nat → Int32) (Vcount : Int32), BX6_table_65 v1 v2 Vdegrees Vfactors Vcount = some (r, RVdegrees, RVfactors, RVcount) → ∀ (H : Heap) (locs : List Loc) (ls : Array Slot), va_P D vwCl ((wU k aU xI xL xS xB (aV 0) xC Uformulas Udrawn Umodels) ++ (wV k aV Vdegrees Vfactors Vcount)) H → va_D A ((wU k aU xI xL xS xB (aV 0) xC Uformulas Udrawn Umodels) ++ (wV k aV Vdegrees Vfactors Vcount)) → va_S A s.heap H locs → lv_has ls 3 [(0, .ref (aU 0))] → W p l e rmX6_table s m args below meth c H locs 0 0 Q (F0 m 65 ls []) := by
    intro  Vdegrees Vfactors Vcount h H locs ls hP hD hS hl
    unfold BX6_table_65 at h
    refine lv_aload_n hx hb dX6_table_65 rfl (lv_at hl 0 rfl) ?_
    refine va_get (D := D) (ci := 6) (v := .ref (aV 0)) (C := RX6) (T := TX6) (N := 9) hx hb hts iX6 hown hK hP 0 rfl rfl 6 (by decide) f48 (fun _ h9 => h9) rfl dX6_table_66 ?_
    refine va_get (D := D) (ci := 2) (v := .int Vcount) (C := RX2) (T := TX2) (N := 3) hx hb hts iX2 hown hK hP 3 rfl rfl 2 (by decide) f229 (fun _ h9 => h9) rfl dX6_table_69 ?_
    have hP9 := hP
    have hD9 := hD
    have hS9 := hS
    subst hQ
    cases h
    exact W.iret hx hb hr (fun t ht hW => ⟨⟨_, (), rfl, rfl, by rw [ht]; exact hP9, va_K.moved hW.alike hK, hD9⟩, hS9.F ht⟩) hS9.2.2 dX6_table_72
  suffices main : ∀ (H : Heap) (locs : List Loc) (ls : Array Slot), va_P D vwCl ((wU k aU xI xL xS xB (aV 0) xC Uformulas Udrawn Umodels) ++ (wV k aV Vdegrees Vfactors Vcount)) H → va_D A ((wU k aU xI xL xS xB (aV 0) xC Uformulas Udrawn Umodels) ++ (wV k aV Vdegrees Vfactors Vcount)) → va_S A s.heap H locs → lv_has ls 3 [(0, .ref (aU 0)), (1, .int v1), (2, .int v2)] → W p l e rmX6_table s m args below meth c H locs 0 0 Q (F0 m 0 ls []) from main _ _ _ hP hD hS hl
  clear hP hD hS hl ls hAe
  intro H locs ls hP hD hS hl
  refine lv_iload_n hx hb dX6_table_0 rfl (lv_at hl 1 rfl) ?_
  refine lv_iconst (v := 1) hx hb dX6_table_1 (by decide) ?_
  refine lv_sipush (v := 9999) hx hb dX6_table_2 (by decide) ?_
  obtain ⟨hc1, h⟩ := bnd0_inv h
  have hPc := hP.sub (ws' := ([] : va_W)) [] rfl
  have hDc := hD.sub (ws' := ([] : va_W)) [] rfl rfl
  have hFc := va_free (wc := ([] : va_W)) hD hS hA [] rfl
  refine xc_v (va_runS (As := [.int v1, .int 1, .int 9999]) (rest := []) ⟨hx, hb, hml, hown, hts⟩ (met_X6_checkRange l D k  H.size v1 1 9999 hc1) (va_cwS 3 hts gX6_table_X6_checkRange rfl rfl rfl (by decide +kernel) ⟨Nat.le_of_ble_eq_true rfl, Nat.le_of_ble_eq_true rfl⟩) ⟨pw_blind, pw_start hPc hK hDc⟩ rfl rfl hl.1 rfl (lv_room (Nat.le_of_ble_eq_true rfl)) dX6_table_5 ⟨Nat.zero_le _, Nat.zero_le _⟩) hS hFc (fun H1 locs hP1 hD1 hk1 hS => ?_)
  obtain ⟨hP, hD⟩ := vk hP hD [] rfl hk1 hP1
  clear hP1 hD1 hk1 hFc
  generalize H1 = H at hP hS ⊢
  refine lv_iload_n hx hb dX6_table_8 rfl (lv_at hl 2 rfl) ?_
  refine lv_iconst (v := -1) hx hb dX6_table_9 (by decide) ?_
  refine lv_sipush (v := 999) hx hb dX6_table_10 (by decide) ?_
  obtain ⟨hc2, h⟩ := bnd0_inv h
  have hPc := hP.sub (ws' := ([] : va_W)) [] rfl
  have hDc := hD.sub (ws' := ([] : va_W)) [] rfl rfl
  have hFc := va_free (wc := ([] : va_W)) hD hS hA [] rfl
  refine xc_v (va_runS (As := [.int v2, .int ((-1)), .int 999]) (rest := []) ⟨hx, hb, hml, hown, hts⟩ (met_X6_checkRange l D k  H.size v2 ((-1)) 999 hc2) (va_cwS 3 hts gX6_table_X6_checkRange rfl rfl rfl (by decide +kernel) ⟨Nat.le_of_ble_eq_true rfl, Nat.le_of_ble_eq_true rfl⟩) ⟨pw_blind, pw_start hPc hK hDc⟩ rfl rfl hl.1 rfl (lv_room (Nat.le_of_ble_eq_true rfl)) dX6_table_13 ⟨Nat.zero_le _, Nat.zero_le _⟩) hS hFc (fun H1 locs hP1 hD1 hk1 hS => ?_)
  obtain ⟨hP, hD⟩ := vk hP hD [] rfl hk1 hP1
  clear hP1 hD1 hk1 hFc
  generalize H1 = H at hP hS ⊢
  refine lv_iload_n hx hb dX6_table_16 rfl (lv_at hl 2 rfl) ?_
  refine lv_iconst (v := -1) hx hb dX6_table_17 (by decide) ?_
  refine lv_icmp_ne (tgt := 32) hx hb dX6_table_18 (by decide) (fun c3 => ?_) (fun c3 => ?_)
  · replace h := sf_f c3 h
    refine lv_aload_n hx hb dX6_table_32 rfl (lv_at hl 0 rfl) ?_
    refine va_get (D := D) (ci := 6) (v := .ref (aV 0)) (C := RX6) (T := TX6) (N := 9) hx hb hts iX6 hown hK hP 0 rfl rfl 6 (by decide) f48 (fun _ h9 => h9) rfl dX6_table_33 ?_
    refine lv_iload_n hx hb dX6_table_36 rfl (lv_at hl 1 rfl) ?_
    obtain ⟨r4, hc4, h⟩ := bnd1_inv h
    have hPc := hP.sub (ws' := (wV k aV Vdegrees Vfactors Vcount)) [3, 4, 5] rfl
    have hDc := hD.sub (ws' := (wV k aV Vdegrees Vfactors Vcount)) [3, 4, 5] rfl rfl
    have hFc := va_free (wc := (wV k aV Vdegrees Vfactors Vcount)) hD hS hA [3, 4, 5] rfl
    refine xc_i (va_runV (As := [.int v1]) (rest := []) ⟨hx, hb, hml, hown, hts⟩ (met_X2_hasRoomFor l D k  aV H.size Vdegrees Vfactors Vcount v1 r4 hc4) (cwV 1 hts gX6_table_X2_hasRoomFor rfl rfl rfl (by decide +kernel) ⟨Nat.le_of_ble_eq_true rfl, Nat.le_of_ble_eq_true rfl⟩) ⟨pw_blind, va_recv hK hPc (ci := 2) (q0 := 0) rfl rfl, pw_start hPc hK hDc⟩ rfl rfl hl.1 rfl (lv_room (Nat.le_of_ble_eq_true rfl)) dX6_table_37 ⟨Nat.zero_le _, Nat.zero_le _⟩) hS hFc (fun H1 locs hP1 hD1 hk1 hS => ?_)
    obtain ⟨hP, hD⟩ := vk hP hD [3, 4, 5] rfl hk1 hP1
    clear hP1 hD1 hk1 hFc
    generalize H1 = H at hP hS ⊢
    refine lv_if_eq (tgt := 55) hx hb dX6_table_40 (by decide) (fun c5 => ?_) (fun c5 => ?_)
    · replace h := sf_t c5 h
      cases h
    · replace h := sf_f c5 h
      refine lv_aload_n hx hb dX6_table_43 rfl (lv_at hl 0 rfl) ?_
      refine va_get (D := D) (ci := 6) (v := .ref (aV 0)) (C := RX6) (T := TX6) (N := 9) hx hb hts iX6 hown hK hP 0 rfl rfl 6 (by decide) f48 (fun _ h9 => h9) rfl dX6_table_44 ?_
      refine lv_iload_n hx hb dX6_table_47 rfl (lv_at hl 1 rfl) ?_
      refine lv_iload_n hx hb dX6_table_48 rfl (lv_at hl 2 rfl) ?_
      obtain ⟨degrees_6, factors_6, count_6, hc6, h⟩ := bnd3_inv h
      have hPc := hP.sub (ws' := (wV k aV Vdegrees Vfactors Vcount)) [3, 4, 5] rfl
      have hDc := hD.sub (ws' := (wV k aV Vdegrees Vfactors Vcount)) [3, 4, 5] rfl rfl
      have hFc := va_free (wc := (wV k aV Vdegrees Vfactors Vcount)) hD hS hA [3, 4, 5] rfl
      refine xc_v (va_runV (As := [.int v1, .int v2]) (rest := []) ⟨hx, hb, hml, hown, hts⟩ (met_X2_put l D k  aV H.size Vdegrees Vfactors Vcount v1 v2 degrees_6 factors_6 count_6 hc6) (cwV 2 hts gX6_table_X2_put rfl rfl rfl (by decide +kernel) ⟨Nat.le_of_ble_eq_true rfl, Nat.le_of_ble_eq_true rfl⟩) ⟨pw_blind, va_recv hK hPc (ci := 2) (q0 := 0) rfl rfl, pw_start hPc hK hDc⟩ rfl rfl hl.1 rfl (lv_room (Nat.le_of_ble_eq_true rfl)) dX6_table_49 ⟨Nat.zero_le _, Nat.zero_le _⟩) hS hFc (fun H1 locs hP1 hD1 hk1 hS => ?_)
      obtain ⟨hP, hD⟩ := vj (ws' := ((wU k aU xI xL xS xB (aV 0) xC Uformulas Udrawn Umodels) ++ (wV k aV degrees_6 factors_6 count_6))) (w1 := (wV k aV degrees_6 factors_6 count_6)) hP hD [3, 4, 5] [0, 1, 2] [0, 1, 2, 3, 4, 5] rfl rfl rfl rfl rfl hk1 hFc hP1 hD1
      clear hP1 hD1 hk1 hFc
      generalize H1 = H at hP hS ⊢
      refine lv_goto (tgt := 65) hx hb dX6_table_52 (by decide) ?_
      exact BH_65  _ _ _ h _ _ _ hP hD hS (lv_sub hl [0] rfl)
  · replace h := sf_t c3 h
    refine lv_aload_n hx hb dX6_table_21 rfl (lv_at hl 0 rfl) ?_
    refine va_get (D := D) (ci := 6) (v := .ref (aV 0)) (C := RX6) (T := TX6) (N := 9) hx hb hts iX6 hown hK hP 0 rfl rfl 6 (by decide) f48 (fun _ h9 => h9) rfl dX6_table_22 ?_
    refine lv_iload_n hx hb dX6_table_25 rfl (lv_at hl 1 rfl) ?_
    obtain ⟨degrees_7, factors_7, count_7, hc7, h⟩ := bnd3_inv h
    have hPc := hP.sub (ws' := (wV k aV Vdegrees Vfactors Vcount)) [3, 4, 5] rfl
    have hDc := hD.sub (ws' := (wV k aV Vdegrees Vfactors Vcount)) [3, 4, 5] rfl rfl
    have hFc := va_free (wc := (wV k aV Vdegrees Vfactors Vcount)) hD hS hA [3, 4, 5] rfl
    refine xc_v (va_runV (As := [.int v1]) (rest := []) ⟨hx, hb, hml, hown, hts⟩ (met_X2_remove l D k  aV H.size Vdegrees Vfactors Vcount v1 degrees_7 factors_7 count_7 hc7) (cwV 1 hts gX6_table_X2_remove rfl rfl rfl (by decide +kernel) ⟨Nat.le_of_ble_eq_true rfl, Nat.le_of_ble_eq_true rfl⟩) ⟨pw_blind, va_recv hK hPc (ci := 2) (q0 := 0) rfl rfl, pw_start hPc hK hDc⟩ rfl rfl hl.1 rfl (lv_room (Nat.le_of_ble_eq_true rfl)) dX6_table_26 ⟨Nat.zero_le _, Nat.zero_le _⟩) hS hFc (fun H1 locs hP1 hD1 hk1 hS => ?_)
    obtain ⟨hP, hD⟩ := vj (ws' := ((wU k aU xI xL xS xB (aV 0) xC Uformulas Udrawn Umodels) ++ (wV k aV degrees_7 factors_7 count_7))) (w1 := (wV k aV degrees_7 factors_7 count_7)) hP hD [3, 4, 5] [0, 1, 2] [0, 1, 2, 3, 4, 5] rfl rfl rfl rfl rfl hk1 hFc hP1 hD1
    clear hP1 hD1 hk1 hFc
    generalize H1 = H at hP hS ⊢
    refine lv_goto (tgt := 65) hx hb dX6_table_29 (by decide) ?_
    exact BH_65  _ _ _ h _ _ _ hP hD hS (lv_sub hl [0] rfl)
def fX6_seed (v1 : Int32) (Cx : Int32) : Option (Int32 × Int32) := bnd0 (fX6_checkRange v1 0 65536) (some (Cx, v1))
abbrev rmX6_seed : Room := { frames := 1, cells := 0, slots := 0, locals := 22 }

set_option maxHeartbeats 40000000 in
set_option maxRecDepth 100000 in
theorem met_X6_seed (l : Launch) (D : va_G) (k : Nat → ClassId) (xI xL xS xB xV : Nat) (aU : Nat → Nat) (aC : Nat → Nat) (sz : Nat) (Uformulas : Nat → Option Nat) (Udrawn : Nat → Int32) (Umodels : Int32) (Cx : Int32) (v1 : Int32) (r : Int32) (RCx : Int32) (h : fX6_seed v1 Cx = some (r, RCx)) : Met l yX6_seed wsX6_seed rmX6_seed (va_Pc [.ref (aU 0), .int v1] (PreW D k ((wU k aU xI xL xS xB xV (aC 0) Uformulas Udrawn Umodels) ++ (wC k aC Cx)) sz)) (va_Qi (fun r9 (_ : Unit) => r9 = r) (fun _ t => PostW D k (va_A ((wU k aU xI xL xS xB xV (aC 0) Uformulas Udrawn Umodels) ++ (wC k aC Cx)) sz) ((wU k aU xI xL xS xB xV (aC 0) Uformulas Udrawn Umodels) ++ (wC k aC RCx)) t) (va_A ((wU k aU xI xL xS xB xV (aC 0) Uformulas Udrawn Umodels) ++ (wC k aC Cx)) sz)) 0 0 (va_A ((wU k aU xI xL xS xB xV (aC 0) Uformulas Udrawn Umodels) ++ (wC k aC Cx)) sz) := by
  refine Met.ofW (cc := cX6_seed) (maxL := 3) (ret := (some .int)) (by decide) rfl ?_
  intro p e s m args below meth c s₁ B hml hv
  obtain ⟨hav, hsz, hP, hK, hD0⟩ := hv
  have hx := B.exec
  have hb := B.bytes
  have hr := B.returns
  have hts := atoms_spec (ws := wsX6_seed) B.pre
  have hown : s.vm.findClass RX6 = some m.cls := findClass_of_methodNamed B.named
  have hlocks := B.notSynchronized
  subst hsz
  have hD := hD0.self (sz := s.heap.size)
  clear hD0
  generalize hAe : va_A ((wU k aU xI xL xS xB xV (aC 0) Uformulas Udrawn Umodels) ++ (wC k aC Cx)) s.heap.size = A at hD ⊢
  have hA : ∀ q : Nat, s.heap.size ≤ q → A q := fun q h => by rw [← hAe]; exact Or.inr h
  have hS : va_S A s.heap s.heap [] := va_S.rf
  have hl := lv_entry ([.ref (aU 0), .int v1]) (n := 3) (Nat.le_of_ble_eq_true rfl)
  rw [show entryFrame m args 3 = entryFrame m ([.ref (aU 0), .int v1] : List Value).toArray 3 from by rw [hav], lg_entry_eq]
  generalize (lg_sl ([.ref (aU 0), .int v1]) ++ List.replicate (3 - (lg_sl ([.ref (aU 0), .int v1])).length) Slot.unset).toArray = ls at hl ⊢
  replace hl : lv_has ls 3 [(0, .ref (aU 0)), (1, .int v1)] := hl
  have f55 := hts (.fieldLink RX6 55 "UncertainBook" "chance" "LUncertainBook$Chance;") (by decide +kernel)
  have f233 := hts (.fieldLink RX6 233 "UncertainBook$Chance" "x" "I") (by decide +kernel)
  have kc232 := hts (.constant RX6 232 (65536)) (by decide +kernel)
  have iX1 : ∀ w ∈ u_ws RX1 TX1 1, w ∈ wsX6_seed := by decide +kernel
  have iX6 : ∀ w ∈ u_ws RX6 TX6 9, w ∈ wsX6_seed := by decide +kernel
  refine w_q (fun Q hQ => ?_)
  unfold fX6_seed at h
  show W p l e rmX6_seed s m args below meth c s.heap [] 0 0 Q (F0 m 0 ls [])
  suffices main : ∀ (H : Heap) (locs : List Loc) (ls : Array Slot), va_P D vwCl ((wU k aU xI xL xS xB xV (aC 0) Uformulas Udrawn Umodels) ++ (wC k aC Cx)) H → va_D A ((wU k aU xI xL xS xB xV (aC 0) Uformulas Udrawn Umodels) ++ (wC k aC Cx)) → va_S A s.heap H locs → lv_has ls 3 [(0, .ref (aU 0)), (1, .int v1)] → W p l e rmX6_seed s m args below meth c H locs 0 0 Q (F0 m 0 ls []) from main _ _ _ hP hD hS hl
  clear hP hD hS hl ls hAe
  intro H locs ls hP hD hS hl
  refine lv_iload_n hx hb dX6_seed_0 rfl (lv_at hl 1 rfl) ?_
  refine lv_iconst (v := 0) hx hb dX6_seed_1 (by decide) ?_
  refine lv_ldc (v := 65536) hx hb hown kc232 dX6_seed_2 ?_
  obtain ⟨hc1, h⟩ := bnd0_inv h
  have hPc := hP.sub (ws' := ([] : va_W)) [] rfl
  have hDc := hD.sub (ws' := ([] : va_W)) [] rfl rfl
  have hFc := va_free (wc := ([] : va_W)) hD hS hA [] rfl
  refine xc_v (va_runS (As := [.int v1, .int 0, .int 65536]) (rest := []) ⟨hx, hb, hml, hown, hts⟩ (met_X6_checkRange l D k  H.size v1 0 65536 hc1) (va_cwS 3 hts gX6_seed_X6_checkRange rfl rfl rfl (by decide +kernel) ⟨Nat.le_of_ble_eq_true rfl, Nat.le_of_ble_eq_true rfl⟩) ⟨pw_blind, pw_start hPc hK hDc⟩ rfl rfl hl.1 rfl (lv_room (Nat.le_of_ble_eq_true rfl)) dX6_seed_4 ⟨Nat.zero_le _, Nat.zero_le _⟩) hS hFc (fun H1 locs hP1 hD1 hk1 hS => ?_)
  obtain ⟨hP, hD⟩ := vk hP hD [] rfl hk1 hP1
  clear hP1 hD1 hk1 hFc
  generalize H1 = H at hP hS ⊢
  refine lv_aload_n hx hb dX6_seed_7 rfl (lv_at hl 0 rfl) ?_
  refine va_get (D := D) (ci := 6) (v := .ref (aC 0)) (C := RX6) (T := TX6) (N := 9) hx hb hts iX6 hown hK hP 0 rfl rfl 7 (by decide) f55 (fun _ h9 => h9) rfl dX6_seed_8 ?_
  refine va_get (D := D) (ci := 1) (v := .int Cx) (C := RX1) (T := TX1) (N := 1) hx hb hts iX1 hown hK hP 3 rfl rfl 0 (by decide) f233 (fun _ h9 => h9) rfl dX6_seed_11 ?_
  refine lv_istore_n (lv' := [(2, .int Cx), (0, .ref (aU 0)), (1, .int v1)]) hx hb dX6_seed_14 rfl hl (by decide) rfl (fun ls hl => ?_)
  refine lv_aload_n hx hb dX6_seed_15 rfl (lv_at hl 1 rfl) ?_
  refine va_get (D := D) (ci := 6) (v := .ref (aC 0)) (C := RX6) (T := TX6) (N := 9) hx hb hts iX6 hown hK hP 0 rfl rfl 7 (by decide) f55 (fun _ h9 => h9) rfl dX6_seed_16 ?_
  refine lv_iload_n hx hb dX6_seed_19 rfl (lv_at hl 2 rfl) ?_
  refine va_put (D := D) (ci := 1) (v := .int v1) (ty := .int) (C := RX1) (T := TX1) (N := 1) hx hb hts iX1 tyX1 tyX1_ok nmX1 hown hK hP hD hS 3 rfl rfl 0 (by decide) f233 (fun _ h9 => h9) rfl (by decide +kernel) rfl rfl (Nat.le_of_ble_eq_true rfl) dX6_seed_20 (fun H locs hP hD hS => ?_)
  replace hP : va_P D vwCl ((wU k aU xI xL xS xB xV (aC 0) Uformulas Udrawn Umodels) ++ (wC k aC v1)) H := hP
  replace hD : va_D A ((wU k aU xI xL xS xB xV (aC 0) Uformulas Udrawn Umodels) ++ (wC k aC v1)) := hD
  refine lv_iload_n hx hb dX6_seed_23 rfl (lv_at hl 0 rfl) ?_
  have hP9 := hP
  have hD9 := hD
  have hS9 := hS
  subst hQ
  cases h
  exact W.iret hx hb hr (fun t ht hW => ⟨⟨_, (), rfl, rfl, by rw [ht]; exact hP9, va_K.moved hW.alike hK, hD9⟩, hS9.F ht⟩) hS9.2.2 dX6_seed_24
