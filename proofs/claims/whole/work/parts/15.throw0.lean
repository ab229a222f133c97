/-! ===== the book's methods where they throw ===== -/
abbrev exI : String := "java/lang/IndexOutOfBoundsException"
abbrev exA : String := "java/lang/IllegalArgumentException"
abbrev exS : String := "java/lang/IllegalStateException"
def xpStr : List (Nat × String) := [(80, "the input has all its readings"), (101, "a covariance is of two inputs"), (128, "a sign is out of range"), (133, "the line would be too long"), (141, "no such model"), (144, "there are all the models"), (211, "no such place"), (227, "the table is full"), (242, "no such input"), (244, "out of range")]
def xpEx : List String := [exI, exA, exS]
def xpDe : List String := ["java/lang/RuntimeException", "java/lang/Exception", "java/lang/Throwable"]
/-- what a throw asks of the machine beside the words: two statics of Throwable, the texts, each class castable to itself -/
def XP (A : Nat → Prop) (U : State) (H : Heap) : Prop :=
  vx_Zq Bundle.tN "UNASSIGNED_STACK" Bundle.steD A U H ∧ vx_Zq Bundle.tN "SUPPRESSED_SENTINEL" Bundle.listD A U H ∧ (∀ q ∈ xpStr, ∃ a, vk_R RX6 q.1 q.2 a U) ∧ (∀ E ∈ xpEx, va_Nw (.castable E E) U) ∧ ∀ Y ∈ xpDe, va_Nw (.declares (Bundle.initS Y)) U
theorem XP.to {A B : Nat → Prop} {s U : State} {H H1 : Heap} (h : XP A s H) (hW : s.WarmedH U.vm) (hq : ∀ a : Nat, a < H.size → ¬ A a → H1[a]? = H[a]?) (hAB : ∀ q, B q → A q) : XP B U H1 :=
  ⟨((h.1.moved hW.alike).kept hq).narrow hAB, ((h.2.1.moved hW.alike).kept hq).narrow hAB, fun q hq => (h.2.2.1 q hq).elim fun a ha => ⟨a, ha.warm hW⟩, fun E hE => va_Nw.warmC hW (h.2.2.2.1 E hE), fun Y hY => va_tabs (u := s.setVm U.vm) rfl rfl (by rw [Cond.declares_setVm hW.alike]; exact h.2.2.2.2 Y hY)⟩
theorem XP.keep {A : Nat → Prop} {s : State} {H H1 : Heap} (h : XP A s H) (hq : ∀ a : Nat, a < H.size → ¬ A a → H1[a]? = H[a]?) : XP A s H1 := ⟨h.1.kept hq, h.2.1.kept hq, h.2.2⟩
def PreX (D : va_G) (k : Nat → ClassId) (ws : va_W) (sz : Nat) : State → Prop := fun U => PreW D k ws sz U ∧ XP (va_A ws sz) U U.heap
theorem px_blind {av : List Value} {D : va_G} {k : Nat → ClassId} {ws : va_W} {sz : Nat} : FrameBlind (va_Pc av (PreX D k ws sz)) := fun a U g mk q => by
  obtain ⟨q0, ⟨q1, qP, qK, qD⟩, x1, x2, x3, x4, x5⟩ := q
  refine ⟨q0, ⟨q1, qP, va_K.moved (u := U) (U := U.calling g mk a) (Vm.Alike.refl U.vm) qK, qD⟩, ?_, ?_, fun q hq => (x3 q hq).elim fun b hb => ⟨b, vk_R.same (u := U) rfl hb⟩, fun E hE => va_tabs (u := U) rfl rfl (x4 E hE), fun Y hY => va_tabs (u := U) rfl rfl (x5 Y hY)⟩
  · exact vx_Zq.moved (u := U) (U := U.calling g mk a) (Vm.Alike.refl U.vm) x1
  · exact vx_Zq.moved (u := U) (U := U.calling g mk a) (Vm.Alike.refl U.vm) x2
theorem px_start {av : List Value} {D : va_G} {k : Nat → ClassId} {ws : va_W} {H : Heap} {s : State} {A A1 : Nat → Prop} (hP : va_P D vwCl ws H) (hK : va_K D vwCl (tyL k) s) (hD : va_D A ws) (hX : XP A1 s H) (hF : ∀ q, va_A ws H.size q → A1 q) : ∀ U : State, U.heap = H → s.WarmedH U.vm → va_Pc av (PreX D k ws H.size) av.toArray U := fun U hU hW => ⟨rfl, ⟨by rw [hU], by rw [hU]; exact hP, va_K.moved hW.alike hK, hD.weaken (fun _ _ _ _ => trivial)⟩, hX.to hW (fun a _ _ => by rw [hU]) hF⟩
/-- how a method ends that throws E: its cells as they were -/
def XQ (D : va_G) (k : Nat → ClassId) (ws : va_W) (sz : Nat) (E : String) : String → State → State → Prop := vx_X (fun _ : Unit => True) (fun E' _ t => E' = E ∧ PostW D k (va_A ws sz) ws t) (va_A ws sz)
def NQ : Array Value → State → Outcome → State → Prop := fun _ _ _ _ => False
theorem xq_of {D : va_G} {k : Nat → ClassId} {ws : va_W} {s : State} {H : Heap} {locs : List Loc} {A : Nat → Prop} {E : String} (hAe : va_A ws s.heap.size = A) (hP : va_P D vwCl ws H) (hK : va_K D vwCl (tyL k) s) (hD : va_D A ws) (hS : va_S A s.heap H locs) : ∀ t : State, s.vm.Alike t.vm → H.size ≤ t.heap.size → (∀ q : Nat, q < H.size → t.heap[q]? = H[q]?) → XQ D k ws s.heap.size E E s t := fun t hA hz hq => by
  subst hAe
  exact ⟨(), trivial, ⟨rfl, hP.kept (fun i q hi => hq q.1 (hP i q hi).lt), va_K.moved hA hK, hD⟩, Nat.le_trans hS.1 hz, fun q h1 h2 => by rw [hq q (Nat.lt_of_lt_of_le h1 hS.1)]; exact hS.2.1 q h1 h2⟩
section XT
variable {p : Program} {l : Launch} {e : Env} {R : Room} {s : State} {m : MethodId} {args : Array Value} {below : List Frame} {meth : Method} {c : Code} {H : Heap} {locs : List Loc} {cells slots : Nat}
variable {pc : Nat} {ls : Array Slot} {rest st0 : List Value} {a : Array Value} {D : va_G} {k : Nat → ClassId} {wc ws : va_W} {Qc : Array Value → State → Outcome → State → Prop} {E : String} {A : Nat → Prop}
/-- a callee's throw that goes on to the caller -/
theorem xt_v (hr : vx_Run p l e R s m args below meth c H locs 0 0 1 6 (F0 m pc ls st0) rest (NQ a) (XQ D k wc H.size E) (va_A wc H.size)) (hAe : va_A ws s.heap.size = A) (hP : va_P D vwCl ws H) (hK : va_K D vwCl (tyL k) s) (hD : va_D A ws) (hS : va_S A s.heap H locs) (hF : ∀ q, va_A wc H.size q → A q) (hsub : ∀ H1 : Heap, va_P D vwCl wc H1 → va_D (va_A wc H.size) wc → (∀ q : Nat, q < H.size → ¬ va_A wc H.size q → H1[q]? = H[q]?) → va_P D vwCl ws H1 ∧ va_D A ws)
    (htab : ∀ x ∈ c.exceptionTable.toList, False) (hlocks : meth.locks = false) : W p l e R s m args below meth c H locs 0 0 (vx_MQ below Qc (XQ D k ws s.heap.size E) args s 1 6 (va_A ws s.heap.size)) (F0 m pc ls st0) := by
  subst hAe
  intro T hT X
  rcases hr T hT X with ⟨v, st₀, t, T', L, h0, X', hL, e1, e2, hQ, st⟩ | ⟨q, st₀, t, T', L, E1, ce, h0, X', hL, e1, e2, ⟨u, hp, hB, hFr⟩, hce, hcv, hcl, st⟩
  · exact absurd hQ id
  · obtain ⟨k1, k2, k3⟩ := vx_keep h0 e1 hS (fun q _ h => hF q h) hF hL hFr
    obtain ⟨rfl, hP1, hK1, hD1⟩ := hB
    rw [← e1] at hP1
    obtain ⟨hP2, hD2⟩ := hsub T'.heap hP1 hD1 k2
    obtain ⟨t2, a1, b1⟩ := vx_out (Qc := Qc) (XC := XQ D k ws s.heap.size E1) (rest := rest) (pc := pc) (ls := ls) (args := args) (below := below) (p := p) (fun x hx => (htab x hx).elim) hlocks (by rw [e1]; exact hce) hcv hcl (fun t ht hA => xq_of rfl hP2 hK hD2 k3 t hA (by rw [ht]; exact Nat.le_refl _) (fun q _ => by rw [ht])) k3.2.2 (Nat.le_refl 1) (Nat.le_refl 6) T' rfl X'
    exact ⟨t2, st.trans a1, b1⟩
end XT
abbrev rmTX6_checkInput : Room := { frames := 6, cells := 1, slots := 6, locals := 90 }
set_option maxHeartbeats 4000000 in
set_option maxRecDepth 100000 in
theorem thr_X6_checkInput_0 (l : Launch) (hst : l.stackTraces = false) (D : va_G) (k : Nat → ClassId)   (sz : Nat)  (v0 : Int32)  (c1 : v0 < 0) : vx_Met l yX6_checkInput wsX6_checkInput rmTX6_checkInput (va_Pc [.int v0] (PreX D k ([] : va_W) sz)) NQ (XQ D k ([] : va_W) sz exI) 1 6 (va_A ([] : va_W) sz) := by
  refine vx_ofW (cc := cX6_checkInput) (maxL := 1) (ret := none) (by decide) rfl ?_
  intro p e s m args below meth c s₁ B hml htab hv
  obtain ⟨hav, ⟨hsz, hP, hK, hD0⟩, hXP⟩ := hv
  have hx := B.exec
  have hb := B.bytes
  have hts := atoms_spec (ws := wsX6_checkInput) B.pre
  have hown : s.vm.findClass RX6 = some m.cls := findClass_of_methodNamed B.named
  have hlocks := B.notSynchronized
  subst hsz
  have hD := hD0.self (sz := s.heap.size)
  clear hD0
  obtain ⟨A, hAe⟩ : ∃ A, va_A ([] : va_W) s.heap.size = A := ⟨_, rfl⟩
  rw [hAe] at hD hXP
  have hA : ∀ q : Nat, s.heap.size ≤ q → A q := fun q h => by rw [← hAe]; exact Or.inr h
  have hS : va_S A s.heap s.heap [] := va_S.rf
  have hl := lv_entry ([.int v0]) (n := 1) (Nat.le_of_ble_eq_true rfl)
  rw [show entryFrame m args 1 = entryFrame m ([.int v0] : List Value).toArray 1 from by rw [hav], lg_entry_eq]
  generalize (lg_sl ([.int v0]) ++ List.replicate (1 - (lg_sl ([.int v0])).length) Slot.unset).toArray = ls at hl ⊢
  replace hl : lv_has ls 1 [(0, .int v0)] := hl
  show W p l e rmTX6_checkInput s m args below meth c s.heap [] 0 0 _ (F0 m 0 ls [])
  suffices main : ∀ (H : Heap) (locs : List Loc) (ls : Array Slot), va_P D vwCl ([] : va_W) H → va_D A ([] : va_W) → va_S A s.heap H locs → lv_has ls 1 [(0, .int v0)] → W p l e rmTX6_checkInput s m args below meth c H locs 0 0 _ (F0 m 0 ls []) from main _ _ _ hP hD hS hl
  clear hP hD hS hl ls
  intro H locs ls hP hD hS hl
  refine lv_iload_n hx hb dX6_checkInput_0 rfl (lv_at hl 0 rfl) ?_
  refine lv_if_lt (tgt := 10) hx hb dX6_checkInput_1 (by decide) (fun _ => ?_) (fun q => absurd c1 q)
  obtain ⟨sa, hstr⟩ := hXP.2.2.1 (242, "no such input") (by decide +kernel)
  have hg : ∀ w ∈ (vx_atS RX6 143 exI ["java/lang/RuntimeException", "java/lang/Exception"]).filter goodWord, w ∈ wsX6_checkInput := by decide +kernel
  have hat : ∀ w ∈ vx_atS RX6 143 exI ["java/lang/RuntimeException", "java/lang/Exception"], w.before args s = true := vx_hat (B := [.castable exI exI, .declares (Bundle.initS "java/lang/RuntimeException"), .declares (Bundle.initS "java/lang/Exception"), .declares (Bundle.initS "java/lang/Throwable")]) (fun w hw => hts w (hg w hw)) (by decide +kernel) (vx_c (va_Nw.use rfl (hXP.2.2.2.1 exI (by decide +kernel))) (vx_c (va_Nw.use rfl (hXP.2.2.2.2 _ (by decide +kernel))) (vx_c (va_Nw.use rfl (hXP.2.2.2.2 _ (by decide +kernel))) (vx_c (va_Nw.use rfl (hXP.2.2.2.2 _ (by decide +kernel))) vx_n))))
  exact vx_throwS (own := RX6) (cls := exI) (text := "no such input") (names := ["java/lang/RuntimeException", "java/lang/Exception"]) (ik := 139) (is := 242) (ic := 143) (sa := sa) (A := A) hx hb hst hown (by decide +kernel) (by decide +kernel) (hts (.classLink RX6 139 exI) (by decide +kernel)) (hts (.initialized exI) (by decide +kernel)) hstr hat (by decide +kernel) hXP.1 hXP.2.1 hS (hl.1.trans hml.symm) dX6_checkInput_10 dX6_checkInput_13 dX6_checkInput_14 dX6_checkInput_16 dX6_checkInput_19 (fun x hx => (htab x hx).elim) (Nat.le_of_ble_eq_true rfl) (Nat.le_of_ble_eq_true rfl) (Nat.le_refl _) (Nat.le_refl _) hlocks (xq_of hAe hP hK hD hS) (fun z hz => by rw [hAe]; exact hS.2.2 z hz) (Nat.le_refl _) (Nat.le_refl _)
set_option maxHeartbeats 4000000 in
set_option maxRecDepth 100000 in
theorem thr_X6_checkInput_1 (l : Launch) (hst : l.stackTraces = false) (D : va_G) (k : Nat → ClassId)   (sz : Nat)  (v0 : Int32)  (c1 : ¬ (v0 < 0)) (c2 : ¬ (v0 < 6)) : vx_Met l yX6_checkInput wsX6_checkInput rmTX6_checkInput (va_Pc [.int v0] (PreX D k ([] : va_W) sz)) NQ (XQ D k ([] : va_W) sz exI) 1 6 (va_A ([] : va_W) sz) := by
  refine vx_ofW (cc := cX6_checkInput) (maxL := 1) (ret := none) (by decide) rfl ?_
  intro p e s m args below meth c s₁ B hml htab hv
  obtain ⟨hav, ⟨hsz, hP, hK, hD0⟩, hXP⟩ := hv
  have hx := B.exec
  have hb := B.bytes
  have hts := atoms_spec (ws := wsX6_checkInput) B.pre
  have hown : s.vm.findClass RX6 = some m.cls := findClass_of_methodNamed B.named
  have hlocks := B.notSynchronized
  subst hsz
  have hD := hD0.self (sz := s.heap.size)
  clear hD0
  obtain ⟨A, hAe⟩ : ∃ A, va_A ([] : va_W) s.heap.size = A := ⟨_, rfl⟩
  rw [hAe] at hD hXP
  have hA : ∀ q : Nat, s.heap.size ≤ q → A q := fun q h => by rw [← hAe]; exact Or.inr h
  have hS : va_S A s.heap s.heap [] := va_S.rf
  have hl := lv_entry ([.int v0]) (n := 1) (Nat.le_of_ble_eq_true rfl)
  rw [show entryFrame m args 1 = entryFrame m ([.int v0] : List Value).toArray 1 from by rw [hav], lg_entry_eq]
  generalize (lg_sl ([.int v0]) ++ List.replicate (1 - (lg_sl ([.int v0])).length) Slot.unset).toArray = ls at hl ⊢
  replace hl : lv_has ls 1 [(0, .int v0)] := hl
  show W p l e rmTX6_checkInput s m args below meth c s.heap [] 0 0 _ (F0 m 0 ls [])
  suffices main : ∀ (H : Heap) (locs : List Loc) (ls : Array Slot), va_P D vwCl ([] : va_W) H → va_D A ([] : va_W) → va_S A s.heap H locs → lv_has ls 1 [(0, .int v0)] → W p l e rmTX6_checkInput s m args below meth c H locs 0 0 _ (F0 m 0 ls []) from main _ _ _ hP hD hS hl
  clear hP hD hS hl ls
  intro H locs ls hP hD hS hl
  refine lv_iload_n hx hb dX6_checkInput_0 rfl (lv_at hl 0 rfl) ?_
  refine lv_if_lt (tgt := 10) hx hb dX6_checkInput_1 (by decide) (fun q => absurd q c1) (fun _ => ?_)
  refine lv_iload_n hx hb dX6_checkInput_4 rfl (lv_at hl 0 rfl) ?_
  refine lv_bipush (v := 6) hx hb dX6_checkInput_5 (by decide) ?_
  refine lv_icmp_lt (tgt := 20) hx hb dX6_checkInput_7 (by decide) (fun q => absurd q c2) (fun _ => ?_)
  obtain ⟨sa, hstr⟩ := hXP.2.2.1 (242, "no such input") (by decide +kernel)
  have hg : ∀ w ∈ (vx_atS RX6 143 exI ["java/lang/RuntimeException", "java/lang/Exception"]).filter goodWord, w ∈ wsX6_checkInput := by decide +kernel
  have hat : ∀ w ∈ vx_atS RX6 143 exI ["java/lang/RuntimeException", "java/lang/Exception"], w.before args s = true := vx_hat (B := [.castable exI exI, .declares (Bundle.initS "java/lang/RuntimeException"), .declares (Bundle.initS "java/lang/Exception"), .declares (Bundle.initS "java/lang/Throwable")]) (fun w hw => hts w (hg w hw)) (by decide +kernel) (vx_c (va_Nw.use rfl (hXP.2.2.2.1 exI (by decide +kernel))) (vx_c (va_Nw.use rfl (hXP.2.2.2.2 _ (by decide +kernel))) (vx_c (va_Nw.use rfl (hXP.2.2.2.2 _ (by decide +kernel))) (vx_c (va_Nw.use rfl (hXP.2.2.2.2 _ (by decide +kernel))) vx_n))))
  exact vx_throwS (own := RX6) (cls := exI) (text := "no such input") (names := ["java/lang/RuntimeException", "java/lang/Exception"]) (ik := 139) (is := 242) (ic := 143) (sa := sa) (A := A) hx hb hst hown (by decide +kernel) (by decide +kernel) (hts (.classLink RX6 139 exI) (by decide +kernel)) (hts (.initialized exI) (by decide +kernel)) hstr hat (by decide +kernel) hXP.1 hXP.2.1 hS (hl.1.trans hml.symm) dX6_checkInput_10 dX6_checkInput_13 dX6_checkInput_14 dX6_checkInput_16 dX6_checkInput_19 (fun x hx => (htab x hx).elim) (Nat.le_of_ble_eq_true rfl) (Nat.le_of_ble_eq_true rfl) (Nat.le_refl _) (Nat.le_refl _) hlocks (xq_of hAe hP hK hD hS) (fun z hz => by rw [hAe]; exact hS.2.2 z hz) (Nat.le_refl _) (Nat.le_refl _)
abbrev rmTX6_checkRange : Room := { frames := 6, cells := 1, slots := 6, locals := 90 }
set_option maxHeartbeats 4000000 in
set_option maxRecDepth 100000 in
theorem thr_X6_checkRange_0 (l : Launch) (hst : l.stackTraces = false) (D : va_G) (k : Nat → ClassId)   (sz : Nat)  (v0 : Int32) (v1 : Int32) (v2 : Int32)  (c1 : v0 < v1) : vx_Met l yX6_checkRange wsX6_checkRange rmTX6_checkRange (va_Pc [.int v0, .int v1, .int v2] (PreX D k ([] : va_W) sz)) NQ (XQ D k ([] : va_W) sz exA) 1 6 (va_A ([] : va_W) sz) := by
  refine vx_ofW (cc := cX6_checkRange) (maxL := 3) (ret := none) (by decide) rfl ?_
  intro p e s m args below meth c s₁ B hml htab hv
  obtain ⟨hav, ⟨hsz, hP, hK, hD0⟩, hXP⟩ := hv
  have hx := B.exec
  have hb := B.bytes
  have hts := atoms_spec (ws := wsX6_checkRange) B.pre
  have hown : s.vm.findClass RX6 = some m.cls := findClass_of_methodNamed B.named
  have hlocks := B.notSynchronized
  subst hsz
  have hD := hD0.self (sz := s.heap.size)
  clear hD0
  obtain ⟨A, hAe⟩ : ∃ A, va_A ([] : va_W) s.heap.size = A := ⟨_, rfl⟩
  rw [hAe] at hD hXP
  have hA : ∀ q : Nat, s.heap.size ≤ q → A q := fun q h => by rw [← hAe]; exact Or.inr h
  have hS : va_S A s.heap s.heap [] := va_S.rf
  have hl := lv_entry ([.int v0, .int v1, .int v2]) (n := 3) (Nat.le_of_ble_eq_true rfl)
  rw [show entryFrame m args 3 = entryFrame m ([.int v0, .int v1, .int v2] : List Value).toArray 3 from by rw [hav], lg_entry_eq]
  generalize (lg_sl ([.int v0, .int v1, .int v2]) ++ List.replicate (3 - (lg_sl ([.int v0, .int v1, .int v2])).length) Slot.unset).toArray = ls at hl ⊢
  replace hl : lv_has ls 3 [(0, .int v0), (1, .int v1), (2, .int v2)] := hl
  show W p l e rmTX6_checkRange s m args below meth c s.heap [] 0 0 _ (F0 m 0 ls [])
  suffices main : ∀ (H : Heap) (locs : List Loc) (ls : Array Slot), va_P D vwCl ([] : va_W) H → va_D A ([] : va_W) → va_S A s.heap H locs → lv_has ls 3 [(0, .int v0), (1, .int v1), (2, .int v2)] → W p l e rmTX6_checkRange s m args below meth c H locs 0 0 _ (F0 m 0 ls []) from main _ _ _ hP hD hS hl
  clear hP hD hS hl ls
  intro H locs ls hP hD hS hl
  refine lv_iload_n hx hb dX6_checkRange_0 rfl (lv_at hl 0 rfl) ?_
  refine lv_iload_n hx hb dX6_checkRange_1 rfl (lv_at hl 1 rfl) ?_
  refine lv_icmp_lt (tgt := 10) hx hb dX6_checkRange_2 (by decide) (fun _ => ?_) (fun q => absurd c1 q)
  obtain ⟨sa, hstr⟩ := hXP.2.2.1 (244, "out of range") (by decide +kernel)
  have hg : ∀ w ∈ (vx_atS RX6 103 exA ["java/lang/RuntimeException", "java/lang/Exception"]).filter goodWord, w ∈ wsX6_checkRange := by decide +kernel
  have hat : ∀ w ∈ vx_atS RX6 103 exA ["java/lang/RuntimeException", "java/lang/Exception"], w.before args s = true := vx_hat (B := [.castable exA exA, .declares (Bundle.initS "java/lang/RuntimeException"), .declares (Bundle.initS "java/lang/Exception"), .declares (Bundle.initS "java/lang/Throwable")]) (fun w hw => hts w (hg w hw)) (by decide +kernel) (vx_c (va_Nw.use rfl (hXP.2.2.2.1 exA (by decide +kernel))) (vx_c (va_Nw.use rfl (hXP.2.2.2.2 _ (by decide +kernel))) (vx_c (va_Nw.use rfl (hXP.2.2.2.2 _ (by decide +kernel))) (vx_c (va_Nw.use rfl (hXP.2.2.2.2 _ (by decide +kernel))) vx_n))))
  exact vx_throwS (own := RX6) (cls := exA) (text := "out of range") (names := ["java/lang/RuntimeException", "java/lang/Exception"]) (ik := 99) (is := 244) (ic := 103) (sa := sa) (A := A) hx hb hst hown (by decide +kernel) (by decide +kernel) (hts (.classLink RX6 99 exA) (by decide +kernel)) (hts (.initialized exA) (by decide +kernel)) hstr hat (by decide +kernel) hXP.1 hXP.2.1 hS (hl.1.trans hml.symm) dX6_checkRange_10 dX6_checkRange_13 dX6_checkRange_14 dX6_checkRange_16 dX6_checkRange_19 (fun x hx => (htab x hx).elim) (Nat.le_of_ble_eq_true rfl) (Nat.le_of_ble_eq_true rfl) (Nat.le_refl _) (Nat.le_refl _) hlocks (xq_of hAe hP hK hD hS) (fun z hz => by rw [hAe]; exact hS.2.2 z hz) (Nat.le_refl _) (Nat.le_refl _)
set_option maxHeartbeats 4000000 in
set_option maxRecDepth 100000 in
theorem thr_X6_checkRange_1 (l : Launch) (hst : l.stackTraces = false) (D : va_G) (k : Nat → ClassId)   (sz : Nat)  (v0 : Int32) (v1 : Int32) (v2 : Int32)  (c1 : ¬ (v0 < v1)) (c2 : ¬ (v0 ≤ v2)) : vx_Met l yX6_checkRange wsX6_checkRange rmTX6_checkRange (va_Pc [.int v0, .int v1, .int v2] (PreX D k ([] : va_W) sz)) NQ (XQ D k ([] : va_W) sz exA) 1 6 (va_A ([] : va_W) sz) := by
  refine vx_ofW (cc := cX6_checkRange) (maxL := 3) (ret := none) (by decide) rfl ?_
  intro p e s m args below meth c s₁ B hml htab hv
  obtain ⟨hav, ⟨hsz, hP, hK, hD0⟩, hXP⟩ := hv
  have hx := B.exec
  have hb := B.bytes
  have hts := atoms_spec (ws := wsX6_checkRange) B.pre
  have hown : s.vm.findClass RX6 = some m.cls := findClass_of_methodNamed B.named
  have hlocks := B.notSynchronized
  subst hsz
  have hD := hD0.self (sz := s.heap.size)
  clear hD0
  obtain ⟨A, hAe⟩ : ∃ A, va_A ([] : va_W) s.heap.size = A := ⟨_, rfl⟩
  rw [hAe] at hD hXP
  have hA : ∀ q : Nat, s.heap.size ≤ q → A q := fun q h => by rw [← hAe]; exact Or.inr h
  have hS : va_S A s.heap s.heap [] := va_S.rf
  have hl := lv_entry ([.int v0, .int v1, .int v2]) (n := 3) (Nat.le_of_ble_eq_true rfl)
  rw [show entryFrame m args 3 = entryFrame m ([.int v0, .int v1, .int v2] : List Value).toArray 3 from by rw [hav], lg_entry_eq]
  generalize (lg_sl ([.int v0, .int v1, .int v2]) ++ List.replicate (3 - (lg_sl ([.int v0, .int v1, .int v2])).length) Slot.unset).toArray = ls at hl ⊢
  replace hl : lv_has ls 3 [(0, .int v0), (1, .int v1), (2, .int v2)] := hl
  show W p l e rmTX6_checkRange s m args below meth c s.heap [] 0 0 _ (F0 m 0 ls [])
  suffices main : ∀ (H : Heap) (locs : List Loc) (ls : Array Slot), va_P D vwCl ([] : va_W) H → va_D A ([] : va_W) → va_S A s.heap H locs → lv_has ls 3 [(0, .int v0), (1, .int v1), (2, .int v2)] → W p l e rmTX6_checkRange s m args below meth c H locs 0 0 _ (F0 m 0 ls []) from main _ _ _ hP hD hS hl
  clear hP hD hS hl ls
  intro H locs ls hP hD hS hl
  refine lv_iload_n hx hb dX6_checkRange_0 rfl (lv_at hl 0 rfl) ?_
  refine lv_iload_n hx hb dX6_checkRange_1 rfl (lv_at hl 1 rfl) ?_
  refine lv_icmp_lt (tgt := 10) hx hb dX6_checkRange_2 (by decide) (fun q => absurd q c1) (fun _ => ?_)
  refine lv_iload_n hx hb dX6_checkRange_5 rfl (lv_at hl 0 rfl) ?_
  refine lv_iload_n hx hb dX6_checkRange_6 rfl (lv_at hl 2 rfl) ?_
  refine lv_icmp_le (tgt := 20) hx hb dX6_checkRange_7 (by decide) (fun q => absurd q c2) (fun _ => ?_)
  obtain ⟨sa, hstr⟩ := hXP.2.2.1 (244, "out of range") (by decide +kernel)
  have hg : ∀ w ∈ (vx_atS RX6 103 exA ["java/lang/RuntimeException", "java/lang/Exception"]).filter goodWord, w ∈ wsX6_checkRange := by decide +kernel
  have hat : ∀ w ∈ vx_atS RX6 103 exA ["java/lang/RuntimeException", "java/lang/Exception"], w.before args s = true := vx_hat (B := [.castable exA exA, .declares (Bundle.initS "java/lang/RuntimeException"), .declares (Bundle.initS "java/lang/Exception"), .declares (Bundle.initS "java/lang/Throwable")]) (fun w hw => hts w (hg w hw)) (by decide +kernel) (vx_c (va_Nw.use rfl (hXP.2.2.2.1 exA (by decide +kernel))) (vx_c (va_Nw.use rfl (hXP.2.2.2.2 _ (by decide +kernel))) (vx_c (va_Nw.use rfl (hXP.2.2.2.2 _ (by decide +kernel))) (vx_c (va_Nw.use rfl (hXP.2.2.2.2 _ (by decide +kernel))) vx_n))))
  exact vx_throwS (own := RX6) (cls := exA) (text := "out of range") (names := ["java/lang/RuntimeException", "java/lang/Exception"]) (ik := 99) (is := 244) (ic := 103) (sa := sa) (A := A) hx hb hst hown (by decide +kernel) (by decide +kernel) (hts (.classLink RX6 99 exA) (by decide +kernel)) (hts (.initialized exA) (by decide +kernel)) hstr hat (by decide +kernel) hXP.1 hXP.2.1 hS (hl.1.trans hml.symm) dX6_checkRange_10 dX6_checkRange_13 dX6_checkRange_14 dX6_checkRange_16 dX6_checkRange_19 (fun x hx => (htab x hx).elim) (Nat.le_of_ble_eq_true rfl) (Nat.le_of_ble_eq_true rfl) (Nat.le_refl _) (Nat.le_refl _) hlocks (xq_of hAe hP hK hD hS) (fun z hz => by rw [hAe]; exact hS.2.2 z hz) (Nat.le_refl _) (Nat.le_refl _)
theorem thr_X6_checkInput (l : Launch) (hst : l.stackTraces = false) (D : va_G) (k : Nat → ClassId) (sz : Nat) (v0 : Int32) (h : v0 < 0 ∨ ¬ v0 < 6) : vx_Met l yX6_checkInput wsX6_checkInput rmTX6_checkInput (va_Pc [.int v0] (PreX D k ([] : va_W) sz)) NQ (XQ D k ([] : va_W) sz exI) 1 6 (va_A ([] : va_W) sz) := by
  by_cases c : v0 < 0
  · exact thr_X6_checkInput_0 l hst D k sz v0 c
  · exact thr_X6_checkInput_1 l hst D k sz v0 c (h.elim (fun q => absurd q c) id)
theorem thr_X6_checkRange (l : Launch) (hst : l.stackTraces = false) (D : va_G) (k : Nat → ClassId) (sz : Nat) (v0 v1 v2 : Int32) (h : v0 < v1 ∨ ¬ v0 ≤ v2) : vx_Met l yX6_checkRange wsX6_checkRange rmTX6_checkRange (va_Pc [.int v0, .int v1, .int v2] (PreX D k ([] : va_W) sz)) NQ (XQ D k ([] : va_W) sz exA) 1 6 (va_A ([] : va_W) sz) := by
  by_cases c : v0 < v1
  · exact thr_X6_checkRange_0 l hst D k sz v0 v1 v2 c
  · exact thr_X6_checkRange_1 l hst D k sz v0 v1 v2 c (h.elim (fun q => absurd q c) id)
abbrev rmTX6_formulaOf : Room := { frames := 6, cells := 1, slots := 6, locals := 90 }
set_option maxHeartbeats 4000000 in
set_option maxRecDepth 100000 in
theorem thr_X6_formulaOf (l : Launch) (hst : l.stackTraces = false) (D : va_G) (k : Nat → ClassId) (aU : Nat → Nat) (xI xL xS xB xV xC : Nat) (sz : Nat) (Uformulas : Nat → Option Nat) (Udrawn : Nat → Int32) (Umodels : Int32) (v1 : Int32) (h : ¬ vp_in v1 8 ∨ Uformulas v1.toNatClampNeg = none) : vx_Met l yX6_formulaOf wsX6_formulaOf rmTX6_formulaOf (va_Pc [.ref (aU 0), .int v1] (PreX D k (wU k aU xI xL xS xB xV xC Uformulas Udrawn Umodels) sz)) NQ (XQ D k (wU k aU xI xL xS xB xV xC Uformulas Udrawn Umodels) sz exI) 1 6 (va_A (wU k aU xI xL xS xB xV xC Uformulas Udrawn Umodels) sz) := by
  refine vx_ofW (cc := cX6_formulaOf) (maxL := 3) (ret := (some (.object "UncertainBook$Formula"))) (by decide) rfl ?_
  intro p e s m args below meth c s₁ B hml htab hv
  obtain ⟨hav, ⟨hsz, hP, hK, hD0⟩, hXP⟩ := hv
  have hx := B.exec
  have hb := B.bytes
  have hts := atoms_spec (ws := wsX6_formulaOf) B.pre
  have hown : s.vm.findClass RX6 = some m.cls := findClass_of_methodNamed B.named
  have hlocks := B.notSynchronized
  subst hsz
  have hD := hD0.self (sz := s.heap.size)
  clear hD0
  obtain ⟨A, hAe⟩ : ∃ A, va_A (wU k aU xI xL xS xB xV xC Uformulas Udrawn Umodels) s.heap.size = A := ⟨_, rfl⟩
  rw [hAe] at hD hXP
  have hA : ∀ q : Nat, s.heap.size ≤ q → A q := fun q h => by rw [← hAe]; exact Or.inr h
  have hS : va_S A s.heap s.heap [] := va_S.rf
  have hl := lv_entry ([.ref (aU 0), .int v1]) (n := 3) (Nat.le_of_ble_eq_true rfl)
  rw [show entryFrame m args 3 = entryFrame m ([.ref (aU 0), .int v1] : List Value).toArray 3 from by rw [hav], lg_entry_eq]
  generalize (lg_sl ([.ref (aU 0), .int v1]) ++ List.replicate (3 - (lg_sl ([.ref (aU 0), .int v1])).length) Slot.unset).toArray = ls at hl ⊢
  replace hl : lv_has ls 3 [(0, .ref (aU 0)), (1, .int v1)] := hl
  have f25 := hts (.fieldLink RX6 25 "UncertainBook" "formulas" "[LUncertainBook$Formula;") (by decide +kernel)
  have iX6 : ∀ w ∈ u_ws RX6 TX6 9, w ∈ wsX6_formulaOf := by decide +kernel
  show W p l e rmTX6_formulaOf s m args below meth c s.heap [] 0 0 _ (F0 m 0 ls [])
  obtain ⟨sa, hstr⟩ := hXP.2.2.1 (141, "no such model") (by decide +kernel)
  have hg : ∀ w ∈ (vx_atS RX6 143 exI ["java/lang/RuntimeException", "java/lang/Exception"]).filter goodWord, w ∈ wsX6_formulaOf := by decide +kernel
  have hat : ∀ w ∈ vx_atS RX6 143 exI ["java/lang/RuntimeException", "java/lang/Exception"], w.before args s = true := vx_hat (B := [.castable exI exI, .declares (Bundle.initS "java/lang/RuntimeException"), .declares (Bundle.initS "java/lang/Exception"), .declares (Bundle.initS "java/lang/Throwable")]) (fun w hw => hts w (hg w hw)) (by decide +kernel) (vx_c (va_Nw.use rfl (hXP.2.2.2.1 exI (by decide +kernel))) (vx_c (va_Nw.use rfl (hXP.2.2.2.2 _ (by decide +kernel))) (vx_c (va_Nw.use rfl (hXP.2.2.2.2 _ (by decide +kernel))) (vx_c (va_Nw.use rfl (hXP.2.2.2.2 _ (by decide +kernel))) vx_n))))
  have tail : ∀ ls : Array Slot, lv_has ls 3 [(0, .ref (aU 0)), (1, .int v1)] → W p l e rmTX6_formulaOf s m args below meth c s.heap [] 0 0 (vx_MQ below NQ (XQ D k (wU k aU xI xL xS xB xV xC Uformulas Udrawn Umodels) s.heap.size exI) args s 1 6 (va_A (wU k aU xI xL xS xB xV xC Uformulas Udrawn Umodels) s.heap.size)) (F0 m 20 ls [.null]) := fun ls hl => by
    refine lv_astore_nN (lv' := [(2, .null), (0, .ref (aU 0)), (1, .int v1)]) hx hb dX6_formulaOf_20 rfl hl (by decide) rfl (fun ls hl => ?_)
    refine lv_aload_nN hx hb dX6_formulaOf_21 rfl (lv_at hl 0 rfl) ?_
    refine lv_ifnonnullN hx hb dX6_formulaOf_22 ?_
    exact vx_throwS (own := RX6) (cls := exI) (text := "no such model") (names := ["java/lang/RuntimeException", "java/lang/Exception"]) (ik := 139) (is := 141) (ic := 143) (sa := sa) (A := A) hx hb hst hown (by decide +kernel) (by decide +kernel) (hts (.classLink RX6 139 exI) (by decide +kernel)) (hts (.initialized exI) (by decide +kernel)) hstr hat (by decide +kernel) hXP.1 hXP.2.1 hS (hl.1.trans hml.symm) dX6_formulaOf_25 dX6_formulaOf_28 dX6_formulaOf_29 dX6_formulaOf_31 dX6_formulaOf_34 (fun x hx => (htab x hx).elim) (Nat.le_of_ble_eq_true rfl) (Nat.le_of_ble_eq_true rfl) (Nat.le_refl _) (Nat.le_refl _) hlocks (xq_of hAe hP hK hD hS) (fun z hz => by rw [hAe]; exact hS.2.2 z hz) (Nat.le_refl _) (Nat.le_refl _)
  have none_ : ∀ ls : Array Slot, lv_has ls 3 [(0, .ref (aU 0)), (1, .int v1)] → W p l e rmTX6_formulaOf s m args below meth c s.heap [] 0 0 (vx_MQ below NQ (XQ D k (wU k aU xI xL xS xB xV xC Uformulas Udrawn Umodels) s.heap.size exI) args s 1 6 (va_A (wU k aU xI xL xS xB xV xC Uformulas Udrawn Umodels) s.heap.size)) (F0 m 10 ls []) := fun ls hl => by
    refine lv_null hx hb dX6_formulaOf_10 ?_
    refine lv_goto (tgt := 20) hx hb dX6_formulaOf_11 (by decide) ?_
    exact tail ls hl
  refine lv_iload_n hx hb dX6_formulaOf_0 rfl (lv_at hl 1 rfl) ?_
  refine lv_if_lt (tgt := 10) hx hb dX6_formulaOf_1 (by decide) (fun c1 => none_ ls hl) (fun c1 => ?_)
  refine lv_iload_n hx hb dX6_formulaOf_4 rfl (lv_at hl 1 rfl) ?_
  refine lv_bipush (v := 8) hx hb dX6_formulaOf_5 (by decide) ?_
  refine lv_icmp_lt (tgt := 14) hx hb dX6_formulaOf_7 (by decide) (fun c2 => ?_) (fun c2 => none_ ls hl)
  have hin : vp_in v1 8 := by
    obtain ⟨j, hj, ej⟩ := nI_of c1
    rw [ej] at c2 ⊢
    exact vp_in_nI ((nI_ltI (b := 8) hj (by omega)).mp c2) (by omega)
  have hno : Uformulas v1.toNatClampNeg = none := h.elim (fun q => absurd hin q) id
  have e1 : va_rf (Uformulas v1.toNatClampNeg) = .null := by rw [hno]; rfl
  refine lv_aload_n hx hb dX6_formulaOf_14 rfl (lv_at hl 0 rfl) ?_
  refine va_get (D := D) (ci := 6) (v := .ref (aU 1)) (C := RX6) (T := TX6) (N := 9) hx hb hts iX6 hown hK hP 0 rfl rfl 2 (by decide) f25 (fun _ h9 => h9) rfl dX6_formulaOf_15 ?_
  refine lv_iload_n hx hb dX6_formulaOf_18 rfl (lv_at hl 1 rfl) ?_
  refine va_aldq hx hb hK hP 1 3 rfl rfl hin dX6_formulaOf_19 ?_
  rw [e1]
  exact tail ls hl
