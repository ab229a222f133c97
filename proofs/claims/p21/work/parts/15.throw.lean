/-! ===== the book's methods where they throw ===== -/
abbrev exI : String := "java/lang/IndexOutOfBoundsException"
abbrev exA : String := "java/lang/IllegalArgumentException"
abbrev exS : String := "java/lang/IllegalStateException"
def xpStr : List (Nat × String) := [(80, "the input has all its readings"), (227, "the table is full")]
def xpEx : List String := [exS]
def xpDe : List String := ["java/lang/RuntimeException", "java/lang/Exception", "java/lang/Throwable"]
/-- what a throw asks of the machine beside the words: two statics of Throwable, the texts, each class castable to itself -/
def XP (A : Nat → Prop) (U : State) (H : Heap) : Prop :=
  vx_Zq Bundle.tN "UNASSIGNED_STACK" Bundle.steD A U H ∧ vx_Zq Bundle.tN "SUPPRESSED_SENTINEL" Bundle.listD A U H ∧ (∀ q ∈ xpStr, ∃ a, vk_R RX6 q.1 q.2 a U) ∧ (∀ E ∈ xpEx, va_Nw (.castable E E) U) ∧ ∀ Y ∈ xpDe, va_Nw (.declares (Bundle.initS Y)) U
theorem XP.to {A B : Nat → Prop} {s U : State} {H H1 : Heap} (h : XP A s H) (hW : s.WarmedH U.vm) (hq : ∀ a : Nat, a < H.size → ¬ A a → H1[a]? = H[a]?) (hAB : ∀ q, B q → A q) : XP B U H1 :=
  ⟨((h.1.moved hW.alike).kept hq).narrow hAB, ((h.2.1.moved hW.alike).kept hq).narrow hAB, fun q hq => (h.2.2.1 q hq).elim fun a ha => ⟨a, ha.warm hW⟩, fun E hE => va_Nw.warmC hW (h.2.2.2.1 E hE), fun Y hY => va_tabs (u := s.setVm U.vm) rfl rfl (by rw [Cond.declares_setVm hW.alike]; exact h.2.2.2.2 Y hY)⟩
theorem XP.keep {A : Nat → Prop} {s : State} {H H1 : Heap} (h : XP A s H) (hq : ∀ a : Nat, a < H.size → ¬ A a → H1[a]? = H[a]?) : XP A s H1 := ⟨h.1.kept hq, h.2.1.kept hq, h.2.2⟩
def PreX (D : va_G) (k : Nat → ClassId) (ws : va_W) (sz : Nat) : State → Prop := fun U => PreW D k ws sz U ∧ XP (va_A ws sz) U U.heap
theorem px_blind {av : List Value} {D : va_G} {k : Nat → ClassId} {ws : va_W} {sz : Nat} : FrameBlind (va_Pc av (PreX D k ws sz)) := fun a U g mk q => by
  obtain ⟨q0, ⟨q1, qP, qK, qD⟩, x1, x2, x3, x4, x5⟩ := q
  refine ⟨q0, ⟨q1, qP, va_K.moved (u := U) (U := U.calling g mk a) (Vm.Alike.refl U.vm) qK, qD⟩, ?_, ?_, fun q hq => (x3 q hq).elim fun b hb => ⟨b, vk_R.same (u := U) rfl hb⟩, fun E hE => va_tabs (u := U) rfl rfl (x4 E hE), fun Y hY => va_tabs (u := U) rfl rfl (x5 Y hY)⟩
  · exact vx_Zq.moved (u := U) (U := U.calling g mk a) (Vm.Alike.refl U.vm) x1
  · exact vx_Zq.moved (u := U) (U := U.calling g mk a) (Vm.Alike.refl U.vm) x2
theorem px_start {av : List Value} {D : va_G} {k : Nat → ClassId} {ws : va_W} {H : Heap} {s : State} {A A1 : Nat → Prop} (hP : va_P D vwCl ws H) (hK : va_K D vwCl (tyL k) s) (hD : va_D A ws) (hX : XP A1 s H) (hF : ∀ q, va_A ws H.size q → A1 q) : ∀ U : State, U.heap = H → s.WarmedH U.vm → va_Pc av (PreX D k ws H.size) av.toArray U := fun U hU hW => ⟨rfl, ⟨by rw [hU], by rw [hU]; exact hP, va_K.moved hW.alike hK, hD.weaken (fun _ _ _ _ => trivial)⟩, hX.to hW (fun a _ _ => by rw [hU]) hF⟩
/-- how a method ends that throws E: its cells as they were -/
def XQ (D : va_G) (k : Nat → ClassId) (ws : va_W) (sz : Nat) (E : String) : String → State → State → Prop := vx_X (fun _ : Unit => True) (fun E' _ t => E' = E ∧ PostW D k (va_A ws sz) ws t) (va_A ws sz)
def NQ : Array Value → State → Outcome → State → Prop := fun _ _ _ _ => False
theorem xq_of {D : va_G} {k : Nat → ClassId} {ws : va_W} {s : State} {H : Heap} {locs : List Loc} {A : Nat → Prop} {E : String} (hAe : va_A ws s.heap.size = A) (hP : va_P D vwCl ws H) (hK : va_K D vwCl (tyL k) s) (hD : va_D A ws) (hS : va_S A s.heap H locs) : ∀ t : State, s.vm.Alike t.vm → H.size ≤ t.heap.size → (∀ q : Nat, q < H.size → t.heap[q]? = H[q]?) → XQ D k ws s.heap.size E E s t := fun t hA hz hq => by
  subst hAe
  exact ⟨(), trivial, ⟨rfl, hP.kept (fun i q hi => hq q.1 (hP i q hi).lt), va_K.moved hA hK, hD⟩, Nat.le_trans hS.1 hz, fun q h1 h2 => by rw [hq q (Nat.lt_of_lt_of_le h1 hS.1)]; exact hS.2.1 q h1 h2⟩
section XT
variable {p : Program} {l : Launch} {e : Env} {R : Room} {s : State} {m : MethodId} {args : Array Value} {below : List Frame} {meth : Method} {c : Code} {H : Heap} {locs : List Loc} {cells slots : Nat}
variable {pc : Nat} {ls : Array Slot} {rest st0 : List Value} {a : Array Value} {D : va_G} {k : Nat → ClassId} {wc ws : va_W} {Qc : Array Value → State → Outcome → State → Prop} {E : String} {A : Nat → Prop}
/-- a callee's throw that goes on to the caller -/
theorem xt_v (hr : vx_Run p l e R s m args below meth c H locs 0 0 1 6 (F0 m pc ls st0) rest (NQ a) (XQ D k wc H.size E) (va_A wc H.size)) (hAe : va_A ws s.heap.size = A) (hP : va_P D vwCl ws H) (hK : va_K D vwCl (tyL k) s) (hD : va_D A ws) (hS : va_S A s.heap H locs) (hF : ∀ q, va_A wc H.size q → A q) (hsub : ∀ H1 : Heap, va_P D vwCl wc H1 → va_D (va_A wc H.size) wc → (∀ q : Nat, q < H.size → ¬ va_A wc H.size q → H1[q]? = H[q]?) → va_P D vwCl ws H1 ∧ va_D A ws)
    (htab : ∀ x ∈ c.exceptionTable.toList, False) (hlocks : meth.locks = false) : W p l e R s m args below meth c H locs 0 0 (vx_MQ below Qc (XQ D k ws s.heap.size E) args s 1 6 (va_A ws s.heap.size)) (F0 m pc ls st0) := by
  subst hAe
  intro T hT X
  rcases hr T hT X with ⟨v, st₀, t, T', L, h0, X', hL, e1, e2, hQ, st⟩ | ⟨q, st₀, t, T', L, E1, ce, h0, X', hL, e1, e2, ⟨u, hp, hB, hFr⟩, hce, hcv, hcl, st⟩
  · exact absurd hQ id
  · obtain ⟨k1, k2, k3⟩ := vx_keep h0 e1 hS (fun q _ h => hF q h) hF hL hFr
    obtain ⟨rfl, hP1, hK1, hD1⟩ := hB
    rw [← e1] at hP1
    obtain ⟨hP2, hD2⟩ := hsub T'.heap hP1 hD1 k2
    obtain ⟨t2, a1, b1⟩ := vx_out (Qc := Qc) (XC := XQ D k ws s.heap.size E1) (rest := rest) (pc := pc) (ls := ls) (args := args) (below := below) (p := p) (fun x hx => (htab x hx).elim) hlocks (by rw [e1]; exact hce) hcv hcl (fun t ht hA => xq_of rfl hP2 hK hD2 k3 t hA (by rw [ht]; exact Nat.le_refl _) (fun q _ => by rw [ht])) k3.2.2 (Nat.le_refl 1) (Nat.le_refl 6) T' rfl X'
    exact ⟨t2, st.trans a1, b1⟩
end XT
abbrev rmTX6_read : Room := { frames := 7, cells := 1, slots := 6, locals := 140 }
set_option maxHeartbeats 4000000 in
set_option maxRecDepth 100000 in
theorem thr_X6_read_2 (l : Launch) (hst : l.stackTraces = false) (D : va_G) (k : Nat → ClassId) (aU : Nat → Nat) (aI : Nat → Nat) (xL xS xB xV xC : Nat) (sz : Nat) (Uformulas : Nat → Option Nat) (Udrawn : Nat → Int32) (Umodels : Int32) (Iestimates : Nat → Int32) (Ivariances : Nat → Int32) (Isorts : Nat → Int32) (Iwidths : Nat → Int32) (Icounts : Nat → Int32) (Ireadings : Nat → Nat → Int32) (Ifirsts : Nat → Int32) (Iseconds : Nat → Int32) (Icovariances : Nat → Nat → Int32) (v1 : Int32) (v2 : Int32)  (k2 : fX6_checkInput v1 = some ()) (k4 : fX6_checkRange v2 ((-999)) 999 = some ()) (hi5 : vp_in v1 6) (c6 : ¬ ((Icounts v1.toNatClampNeg) < 8)) : vx_Met l yX6_read wsX6_read rmTX6_read (va_Pc [.ref (aU 0), .int v1, .int v2] (PreX D k ((wU k aU (aI 0) xL xS xB xV xC Uformulas Udrawn Umodels) ++ (wI k aI Iestimates Ivariances Isorts Iwidths Icounts Ireadings Ifirsts Iseconds Icovariances)) sz)) NQ (XQ D k ((wU k aU (aI 0) xL xS xB xV xC Uformulas Udrawn Umodels) ++ (wI k aI Iestimates Ivariances Isorts Iwidths Icounts Ireadings Ifirsts Iseconds Icovariances)) sz exS) 1 6 (va_A ((wU k aU (aI 0) xL xS xB xV xC Uformulas Udrawn Umodels) ++ (wI k aI Iestimates Ivariances Isorts Iwidths Icounts Ireadings Ifirsts Iseconds Icovariances)) sz) := by
  refine vx_ofW (cc := cX6_read) (maxL := 3) (ret := (some .int)) (by decide) rfl ?_
  intro p e s m args below meth c s₁ B hml htab hv
  obtain ⟨hav, ⟨hsz, hP, hK, hD0⟩, hXP⟩ := hv
  have hx := B.exec
  have hb := B.bytes
  have hts := atoms_spec (ws := wsX6_read) B.pre
  have hown : s.vm.findClass RX6 = some m.cls := findClass_of_methodNamed B.named
  have hlocks := B.notSynchronized
  subst hsz
  have hD := hD0.self (sz := s.heap.size)
  clear hD0
  obtain ⟨A, hAe⟩ : ∃ A, va_A ((wU k aU (aI 0) xL xS xB xV xC Uformulas Udrawn Umodels) ++ (wI k aI Iestimates Ivariances Isorts Iwidths Icounts Ireadings Ifirsts Iseconds Icovariances)) s.heap.size = A := ⟨_, rfl⟩
  rw [hAe] at hD hXP
  have hA : ∀ q : Nat, s.heap.size ≤ q → A q := fun q h => by rw [← hAe]; exact Or.inr h
  have hS : va_S A s.heap s.heap [] := va_S.rf
  have hl := lv_entry ([.ref (aU 0), .int v1, .int v2]) (n := 3) (Nat.le_of_ble_eq_true rfl)
  rw [show entryFrame m args 3 = entryFrame m ([.ref (aU 0), .int v1, .int v2] : List Value).toArray 3 from by rw [hav], lg_entry_eq]
  generalize (lg_sl ([.ref (aU 0), .int v1, .int v2]) ++ List.replicate (3 - (lg_sl ([.ref (aU 0), .int v1, .int v2])).length) Slot.unset).toArray = ls at hl ⊢
  replace hl : lv_has ls 3 [(0, .ref (aU 0)), (1, .int v1), (2, .int v2)] := hl
  have iX6 : ∀ w ∈ u_ws RX6 TX6 9, w ∈ wsX6_read := by decide +kernel
  have iX4 : ∀ w ∈ u_ws RX4 TX4 9, w ∈ wsX6_read := by decide +kernel
  show W p l e rmTX6_read s m args below meth c s.heap [] 0 0 _ (F0 m 0 ls [])
  suffices main : ∀ (H : Heap) (locs : List Loc) (ls : Array Slot), va_P D vwCl ((wU k aU (aI 0) xL xS xB xV xC Uformulas Udrawn Umodels) ++ (wI k aI Iestimates Ivariances Isorts Iwidths Icounts Ireadings Ifirsts Iseconds Icovariances)) H → va_D A ((wU k aU (aI 0) xL xS xB xV xC Uformulas Udrawn Umodels) ++ (wI k aI Iestimates Ivariances Isorts Iwidths Icounts Ireadings Ifirsts Iseconds Icovariances)) → va_S A s.heap H locs → lv_has ls 3 [(0, .ref (aU 0)), (1, .int v1), (2, .int v2)] → W p l e rmTX6_read s m args below meth c H locs 0 0 _ (F0 m 0 ls []) from main _ _ _ hP hD hS hl
  clear hP hD hS hl ls
  intro H locs ls hP hD hS hl
  refine lv_iload_n hx hb dX6_read_0 rfl (lv_at hl 1 rfl) ?_
  have hPc := hP.sub (ws' := ([] : va_W)) [] rfl
  have hDc := hD.sub (ws' := ([] : va_W)) [] rfl rfl
  have hFc := va_free (wc := ([] : va_W)) hD hS hA [] rfl
  refine xc_v (va_runS (As := [.int v1]) (rest := []) ⟨hx, hb, hml, hown, hts⟩ (met_X6_checkInput l D k H.size v1 k2) (va_cwS 1 hts gX6_read_X6_checkInput rfl rfl rfl (by decide +kernel) ⟨Nat.le_of_ble_eq_true rfl, Nat.le_of_ble_eq_true rfl⟩) ⟨pw_blind, pw_start hPc hK hDc⟩ rfl rfl hl.1 rfl (lv_room (Nat.le_of_ble_eq_true rfl)) dX6_read_1 ⟨Nat.zero_le _, Nat.zero_le _⟩) hS hFc (fun H1 locs hP1 hD1 hk1 hS => ?_)
  obtain ⟨hP, hD⟩ := vk hP hD [] rfl hk1 hP1
  clear hP1 hD1 hk1 hFc
  generalize H1 = H at hP hS ⊢
  refine lv_iload_n hx hb dX6_read_4 rfl (lv_at hl 2 rfl) ?_
  refine lv_sipush (v := -999) hx hb dX6_read_5 (by decide) ?_
  refine lv_sipush (v := 999) hx hb dX6_read_8 (by decide) ?_
  have hPc := hP.sub (ws' := ([] : va_W)) [] rfl
  have hDc := hD.sub (ws' := ([] : va_W)) [] rfl rfl
  have hFc := va_free (wc := ([] : va_W)) hD hS hA [] rfl
  refine xc_v (va_runS (As := [.int v2, .int ((-999)), .int 999]) (rest := []) ⟨hx, hb, hml, hown, hts⟩ (met_X6_checkRange l D k H.size v2 ((-999)) 999 k4) (va_cwS 3 hts gX6_read_X6_checkRange rfl rfl rfl (by decide +kernel) ⟨Nat.le_of_ble_eq_true rfl, Nat.le_of_ble_eq_true rfl⟩) ⟨pw_blind, pw_start hPc hK hDc⟩ rfl rfl hl.1 rfl (lv_room (Nat.le_of_ble_eq_true rfl)) dX6_read_11 ⟨Nat.zero_le _, Nat.zero_le _⟩) hS hFc (fun H1 locs hP1 hD1 hk1 hS => ?_)
  obtain ⟨hP, hD⟩ := vk hP hD [] rfl hk1 hP1
  clear hP1 hD1 hk1 hFc
  generalize H1 = H at hP hS ⊢
  refine lv_aload_n hx hb dX6_read_14 rfl (lv_at hl 0 rfl) ?_
  refine va_get (D := D) (ci := 6) (v := .ref (aI 0)) (C := RX6) (T := TX6) (N := 9) hx hb hts iX6 hown hK hP 0 rfl rfl 0 (by decide) (hts (.fieldLink RX6 10 "UncertainBook" "inputs" "LUncertainBook$Inputs;") (by decide +kernel)) (fun _ h9 => h9) rfl dX6_read_15 ?_
  refine va_get (D := D) (ci := 4) (v := .ref (aI 5)) (C := RX4) (T := TX4) (N := 9) hx hb hts iX4 hown hK hP 3 rfl rfl 4 (by decide) (hts (.fieldLink RX6 75 "UncertainBook$Inputs" "counts" "[I") (by decide +kernel)) (fun _ h9 => h9) rfl dX6_read_18 ?_
  refine lv_iload_n hx hb dX6_read_21 rfl (lv_at hl 1 rfl) ?_
  refine va_iald hx hb hK hP 8 0 rfl rfl hi5 dX6_read_22 ?_
  refine lv_bipush (v := 8) hx hb dX6_read_23 (by decide) ?_
  refine lv_icmp_lt (tgt := 38) hx hb dX6_read_25 (by decide) (fun q => absurd q c6) (fun _ => ?_)
  obtain ⟨sa, hstr⟩ := hXP.2.2.1 (80, "the input has all its readings") (by decide +kernel)
  have hg : ∀ w ∈ (vx_atS RX6 82 exS ["java/lang/RuntimeException", "java/lang/Exception"]).filter goodWord, w ∈ wsX6_read := by decide +kernel
  have hat : ∀ w ∈ vx_atS RX6 82 exS ["java/lang/RuntimeException", "java/lang/Exception"], w.before args s = true := vx_hat (B := [.castable exS exS, .declares (Bundle.initS "java/lang/RuntimeException"), .declares (Bundle.initS "java/lang/Exception"), .declares (Bundle.initS "java/lang/Throwable")]) (fun w hw => hts w (hg w hw)) (by decide +kernel) (vx_c (va_Nw.use rfl (hXP.2.2.2.1 exS (by decide +kernel))) (vx_c (va_Nw.use rfl (hXP.2.2.2.2 _ (by decide +kernel))) (vx_c (va_Nw.use rfl (hXP.2.2.2.2 _ (by decide +kernel))) (vx_c (va_Nw.use rfl (hXP.2.2.2.2 _ (by decide +kernel))) vx_n))))
  exact vx_throwS (own := RX6) (cls := exS) (text := "the input has all its readings") (names := ["java/lang/RuntimeException", "java/lang/Exception"]) (ik := 78) (is := 80) (ic := 82) (sa := sa) (A := A) hx hb hst hown (by decide +kernel) (by decide +kernel) (hts (.classLink RX6 78 exS) (by decide +kernel)) (hts (.initialized exS) (by decide +kernel)) hstr hat (by decide +kernel) hXP.1 hXP.2.1 hS (hl.1.trans hml.symm) dX6_read_28 dX6_read_31 dX6_read_32 dX6_read_34 dX6_read_37 (fun x hx => (htab x hx).elim) (Nat.le_of_ble_eq_true rfl) (Nat.le_of_ble_eq_true rfl) (Nat.le_refl _) (Nat.le_refl _) hlocks (xq_of hAe hP hK hD hS) (fun z hz => by rw [hAe]; exact hS.2.2 z hz) (Nat.le_refl _) (Nat.le_refl _)
abbrev rmTX6_table : Room := { frames := 8, cells := 1, slots := 6, locals := 400 }
set_option maxHeartbeats 4000000 in
set_option maxRecDepth 100000 in
theorem thr_X6_table_2 (l : Launch) (hst : l.stackTraces = false) (D : va_G) (k : Nat → ClassId) (aU : Nat → Nat) (aV : Nat → Nat) (xI xL xS xB xC : Nat) (sz : Nat) (Uformulas : Nat → Option Nat) (Udrawn : Nat → Int32) (Umodels : Int32) (Vdegrees : Nat → Int32) (Vfactors : Nat → Int32) (Vcount : Int32) (v1 : Int32) (v2 : Int32) (r6 : Int32) (k2 : fX6_checkRange v1 1 9999 = some ()) (k4 : fX6_checkRange v2 ((-1)) 999 = some ()) (c5 : ¬ (v2 = ((-1)))) (k6 : fX2_hasRoomFor v1 Vdegrees Vcount = some r6) (c7 : r6 = 0) : vx_Met l yX6_table wsX6_table rmTX6_table (va_Pc [.ref (aU 0), .int v1, .int v2] (PreX D k ((wU k aU xI xL xS xB (aV 0) xC Uformulas Udrawn Umodels) ++ (wV k aV Vdegrees Vfactors Vcount)) sz)) NQ (XQ D k ((wU k aU xI xL xS xB (aV 0) xC Uformulas Udrawn Umodels) ++ (wV k aV Vdegrees Vfactors Vcount)) sz exS) 1 6 (va_A ((wU k aU xI xL xS xB (aV 0) xC Uformulas Udrawn Umodels) ++ (wV k aV Vdegrees Vfactors Vcount)) sz) := by
  refine vx_ofW (cc := cX6_table) (maxL := 3) (ret := (some .int)) (by decide) rfl ?_
  intro p e s m args below meth c s₁ B hml htab hv
  obtain ⟨hav, ⟨hsz, hP, hK, hD0⟩, hXP⟩ := hv
  have hx := B.exec
  have hb := B.bytes
  have hts := atoms_spec (ws := wsX6_table) B.pre
  have hown : s.vm.findClass RX6 = some m.cls := findClass_of_methodNamed B.named
  have hlocks := B.notSynchronized
  subst hsz
  have hD := hD0.self (sz := s.heap.size)
  clear hD0
  obtain ⟨A, hAe⟩ : ∃ A, va_A ((wU k aU xI xL xS xB (aV 0) xC Uformulas Udrawn Umodels) ++ (wV k aV Vdegrees Vfactors Vcount)) s.heap.size = A := ⟨_, rfl⟩
  rw [hAe] at hD hXP
  have hA : ∀ q : Nat, s.heap.size ≤ q → A q := fun q h => by rw [← hAe]; exact Or.inr h
  have hS : va_S A s.heap s.heap [] := va_S.rf
  have hl := lv_entry ([.ref (aU 0), .int v1, .int v2]) (n := 3) (Nat.le_of_ble_eq_true rfl)
  rw [show entryFrame m args 3 = entryFrame m ([.ref (aU 0), .int v1, .int v2] : List Value).toArray 3 from by rw [hav], lg_entry_eq]
  generalize (lg_sl ([.ref (aU 0), .int v1, .int v2]) ++ List.replicate (3 - (lg_sl ([.ref (aU 0), .int v1, .int v2])).length) Slot.unset).toArray = ls at hl ⊢
  replace hl : lv_has ls 3 [(0, .ref (aU 0)), (1, .int v1), (2, .int v2)] := hl
  have iX6 : ∀ w ∈ u_ws RX6 TX6 9, w ∈ wsX6_table := by decide +kernel
  show W p l e rmTX6_table s m args below meth c s.heap [] 0 0 _ (F0 m 0 ls [])
  suffices main : ∀ (H : Heap) (locs : List Loc) (ls : Array Slot), va_P D vwCl ((wU k aU xI xL xS xB (aV 0) xC Uformulas Udrawn Umodels) ++ (wV k aV Vdegrees Vfactors Vcount)) H → va_D A ((wU k aU xI xL xS xB (aV 0) xC Uformulas Udrawn Umodels) ++ (wV k aV Vdegrees Vfactors Vcount)) → va_S A s.heap H locs → lv_has ls 3 [(0, .ref (aU 0)), (1, .int v1), (2, .int v2)] → W p l e rmTX6_table s m args below meth c H locs 0 0 _ (F0 m 0 ls []) from main _ _ _ hP hD hS hl
  clear hP hD hS hl ls
  intro H locs ls hP hD hS hl
  refine lv_iload_n hx hb dX6_table_0 rfl (lv_at hl 1 rfl) ?_
  refine lv_iconst (v := 1) hx hb dX6_table_1 (by decide) ?_
  refine lv_sipush (v := 9999) hx hb dX6_table_2 (by decide) ?_
  have hPc := hP.sub (ws' := ([] : va_W)) [] rfl
  have hDc := hD.sub (ws' := ([] : va_W)) [] rfl rfl
  have hFc := va_free (wc := ([] : va_W)) hD hS hA [] rfl
  refine xc_v (va_runS (As := [.int v1, .int 1, .int 9999]) (rest := []) ⟨hx, hb, hml, hown, hts⟩ (met_X6_checkRange l D k H.size v1 1 9999 k2) (va_cwS 3 hts gX6_table_X6_checkRange rfl rfl rfl (by decide +kernel) ⟨Nat.le_of_ble_eq_true rfl, Nat.le_of_ble_eq_true rfl⟩) ⟨pw_blind, pw_start hPc hK hDc⟩ rfl rfl hl.1 rfl (lv_room (Nat.le_of_ble_eq_true rfl)) dX6_table_5 ⟨Nat.zero_le _, Nat.zero_le _⟩) hS hFc (fun H1 locs hP1 hD1 hk1 hS => ?_)
  obtain ⟨hP, hD⟩ := vk hP hD [] rfl hk1 hP1
  clear hP1 hD1 hk1 hFc
  generalize H1 = H at hP hS ⊢
  refine lv_iload_n hx hb dX6_table_8 rfl (lv_at hl 2 rfl) ?_
  refine lv_iconst (v := -1) hx hb dX6_table_9 (by decide) ?_
  refine lv_sipush (v := 999) hx hb dX6_table_10 (by decide) ?_
  have hPc := hP.sub (ws' := ([] : va_W)) [] rfl
  have hDc := hD.sub (ws' := ([] : va_W)) [] rfl rfl
  have hFc := va_free (wc := ([] : va_W)) hD hS hA [] rfl
  refine xc_v (va_runS (As := [.int v2, .int ((-1)), .int 999]) (rest := []) ⟨hx, hb, hml, hown, hts⟩ (met_X6_checkRange l D k H.size v2 ((-1)) 999 k4) (va_cwS 3 hts gX6_table_X6_checkRange rfl rfl rfl (by decide +kernel) ⟨Nat.le_of_ble_eq_true rfl, Nat.le_of_ble_eq_true rfl⟩) ⟨pw_blind, pw_start hPc hK hDc⟩ rfl rfl hl.1 rfl (lv_room (Nat.le_of_ble_eq_true rfl)) dX6_table_13 ⟨Nat.zero_le _, Nat.zero_le _⟩) hS hFc (fun H1 locs hP1 hD1 hk1 hS => ?_)
  obtain ⟨hP, hD⟩ := vk hP hD [] rfl hk1 hP1
  clear hP1 hD1 hk1 hFc
  generalize H1 = H at hP hS ⊢
  refine lv_iload_n hx hb dX6_table_16 rfl (lv_at hl 2 rfl) ?_
  refine lv_iconst (v := -1) hx hb dX6_table_17 (by decide) ?_
  refine lv_icmp_ne (tgt := 32) hx hb dX6_table_18 (by decide) (fun _ => ?_) (fun q => absurd q c5)
  refine lv_aload_n hx hb dX6_table_32 rfl (lv_at hl 0 rfl) ?_
  refine va_get (D := D) (ci := 6) (v := .ref (aV 0)) (C := RX6) (T := TX6) (N := 9) hx hb hts iX6 hown hK hP 0 rfl rfl 6 (by decide) (hts (.fieldLink RX6 48 "UncertainBook" "coverage" "LUncertainBook$Coverage;") (by decide +kernel)) (fun _ h9 => h9) rfl dX6_table_33 ?_
  refine lv_iload_n hx hb dX6_table_36 rfl (lv_at hl 1 rfl) ?_
  have hPc := hP.sub (ws' := (wV k aV Vdegrees Vfactors Vcount)) [3, 4, 5] rfl
  have hDc := hD.sub (ws' := (wV k aV Vdegrees Vfactors Vcount)) [3, 4, 5] rfl rfl
  have hFc := va_free (wc := (wV k aV Vdegrees Vfactors Vcount)) hD hS hA [3, 4, 5] rfl
  refine xc_i (va_runV (As := [.int v1]) (rest := []) ⟨hx, hb, hml, hown, hts⟩ (met_X2_hasRoomFor l D k aV H.size Vdegrees Vfactors Vcount v1 r6 k6) (cwV 1 hts gX6_table_X2_hasRoomFor rfl rfl rfl (by decide +kernel) ⟨Nat.le_of_ble_eq_true rfl, Nat.le_of_ble_eq_true rfl⟩) ⟨pw_blind, va_recv hK hPc (ci := 2) (q0 := 0) rfl rfl, pw_start hPc hK hDc⟩ rfl rfl hl.1 rfl (lv_room (Nat.le_of_ble_eq_true rfl)) dX6_table_37 ⟨Nat.zero_le _, Nat.zero_le _⟩) hS hFc (fun H1 locs hP1 hD1 hk1 hS => ?_)
  obtain ⟨hP, hD⟩ := vk hP hD [3, 4, 5] rfl hk1 hP1
  clear hP1 hD1 hk1 hFc
  generalize H1 = H at hP hS ⊢
  refine lv_if_eq (tgt := 55) hx hb dX6_table_40 (by decide) (fun _ => ?_) (fun q => absurd c7 q)
  obtain ⟨sa, hstr⟩ := hXP.2.2.1 (227, "the table is full") (by decide +kernel)
  have hg : ∀ w ∈ (vx_atS RX6 82 exS ["java/lang/RuntimeException", "java/lang/Exception"]).filter goodWord, w ∈ wsX6_table := by decide +kernel
  have hat : ∀ w ∈ vx_atS RX6 82 exS ["java/lang/RuntimeException", "java/lang/Exception"], w.before args s = true := vx_hat (B := [.castable exS exS, .declares (Bundle.initS "java/lang/RuntimeException"), .declares (Bundle.initS "java/lang/Exception"), .declares (Bundle.initS "java/lang/Throwable")]) (fun w hw => hts w (hg w hw)) (by decide +kernel) (vx_c (va_Nw.use rfl (hXP.2.2.2.1 exS (by decide +kernel))) (vx_c (va_Nw.use rfl (hXP.2.2.2.2 _ (by decide +kernel))) (vx_c (va_Nw.use rfl (hXP.2.2.2.2 _ (by decide +kernel))) (vx_c (va_Nw.use rfl (hXP.2.2.2.2 _ (by decide +kernel))) vx_n))))
  exact vx_throwS (own := RX6) (cls := exS) (text := "the table is full") (names := ["java/lang/RuntimeException", "java/lang/Exception"]) (ik := 78) (is := 227) (ic := 82) (sa := sa) (A := A) hx hb hst hown (by decide +kernel) (by decide +kernel) (hts (.classLink RX6 78 exS) (by decide +kernel)) (hts (.initialized exS) (by decide +kernel)) hstr hat (by decide +kernel) hXP.1 hXP.2.1 hS (hl.1.trans hml.symm) dX6_table_55 dX6_table_58 dX6_table_59 dX6_table_61 dX6_table_64 (fun x hx => (htab x hx).elim) (Nat.le_of_ble_eq_true rfl) (Nat.le_of_ble_eq_true rfl) (Nat.le_refl _) (Nat.le_refl _) hlocks (xq_of hAe hP hK hD hS) (fun z hz => by rw [hAe]; exact hS.2.2 z hz) (Nat.le_refl _) (Nat.le_refl _)
