/-! ===== the law's wrappers ===== -/
abbrev wo (k : Nat → ClassId) (qo : Nat) (f : Nat → Int64) : va_W := [(qo, .inl (k 1, 1, .inr (.inl f)))]
/-- a wrapper never throws -/
def NX : String → State → State → Prop := vx_X (fun _ : Unit => False) (fun _ _ _ => True) (fun _ => False)
/-- what a catch asks beside: the classes that are not castable to one another -/
def XN (U : State) : Prop := va_Nc exA exI U ∧ va_Nc exS exI U ∧ va_Nc exS exA U
theorem XN.moved {u U : State} (hvm : u.vm.Alike U.vm) (h : XN u) : XN U := ⟨h.1.moved hvm, h.2.1.moved hvm, h.2.2.moved hvm⟩
def PreY (D : va_G) (k : Nat → ClassId) (ws : va_W) (sz : Nat) : State → Prop := fun U => PreX D k ws sz U ∧ XN U
theorem py_blind {av : List Value} {D : va_G} {k : Nat → ClassId} {ws : va_W} {sz : Nat} : FrameBlind (va_Pc av (PreY D k ws sz)) := fun a U g mk q => by
  obtain ⟨q0, q1, q2⟩ := q
  obtain ⟨r0, r1⟩ := px_blind (av := av) (D := D) (k := k) (ws := ws) (sz := sz) a U g mk ⟨q0, q1⟩
  exact ⟨r0, r1, XN.moved (u := U) (U := U.calling g mk a) (Vm.Alike.refl U.vm) q2⟩
theorem py_start {av : List Value} {D : va_G} {k : Nat → ClassId} {ws : va_W} {H : Heap} {s : State} {A A1 : Nat → Prop} (hP : va_P D vwCl ws H) (hK : va_K D vwCl (tyL k) s) (hD : va_D A ws) (hX : XP A1 s H) (hN : XN s) (hF : ∀ q, va_A ws H.size q → A1 q) : ∀ U : State, U.heap = H → s.WarmedH U.vm → va_Pc av (PreY D k ws H.size) av.toArray U := fun U hU hW => by
  obtain ⟨a, b⟩ := px_start (av := av) hP hK hD hX hF U hU hW
  exact ⟨a, b, hN.moved hW.alike⟩
section XCG
variable {p : Program} {l : Launch} {e : Env} {R : Room} {s : State} {m : MethodId} {args : Array Value} {below : List Frame} {meth : Method} {c : Code} {H : Heap} {locs : List Loc} {cells slots : Nat} {Q : State → Prop}
variable {pc : Nat} {ls : Array Slot} {rest st0 : List Value} {a : Array Value} {A0 : Nat → Prop} {H0 : Heap} {mc ms : Nat} {D : va_G} {k : Nat → ClassId} {wc : va_W} {w1 : (Nat → Nat) → va_W}
theorem xc_iG {r : Int32} (hr : va_Run p l e R s m args below meth c H locs cells slots mc ms (F0 m pc ls st0) rest (va_Qi (fun r9 (_ : Nat → Nat) => r9 = r) (fun u t => PostW D k (va_A wc H.size) (w1 u) t) (va_A wc H.size) a) (va_A wc H.size)) (hS : va_S A0 H0 H locs) (hF : ∀ q, va_A wc H.size q → A0 q)
    (kk : ∀ (u : Nat → Nat) (H1 : Heap) (locs1 : List Loc), va_P D vwCl (w1 u) H1 → va_D (va_A wc H.size) (w1 u) → (∀ q : Nat, q < H.size → ¬ va_A wc H.size q → H1[q]? = H[q]?) → va_S A0 H0 H1 locs1 → W p l e R s m args below meth c H1 locs1 (cells + mc) (slots + ms) Q (F0 m (pc + 3) ls (.int r :: rest))) : W p l e R s m args below meth c H locs cells slots Q (F0 m pc ls st0) :=
  va_calli hr hS (fun q _ h => hF q h) hF (fun r9 u t H1 locs1 ht hvm hw hB hz hk hS => by subst hw; obtain ⟨a, b, c⟩ := hB; rw [ht] at a; exact kk u H1 locs1 a c hk hS)
theorem xc_lG {r : Int64} (hr : va_Run p l e R s m args below meth c H locs cells slots mc ms (F0 m pc ls st0) rest (va_Ql (fun r9 (_ : Nat → Nat) => r9 = r) (fun u t => PostW D k (va_A wc H.size) (w1 u) t) (va_A wc H.size) a) (va_A wc H.size)) (hS : va_S A0 H0 H locs) (hF : ∀ q, va_A wc H.size q → A0 q)
    (kk : ∀ (u : Nat → Nat) (H1 : Heap) (locs1 : List Loc), va_P D vwCl (w1 u) H1 → va_D (va_A wc H.size) (w1 u) → (∀ q : Nat, q < H.size → ¬ va_A wc H.size q → H1[q]? = H[q]?) → va_S A0 H0 H1 locs1 → W p l e R s m args below meth c H1 locs1 (cells + mc) (slots + ms) Q (F0 m (pc + 3) ls (.long r :: rest))) : W p l e R s m args below meth c H locs cells slots Q (F0 m pc ls st0) :=
  va_calll hr hS (fun q _ h => hF q h) hF (fun r9 u t H1 locs1 ht hvm hw hB hz hk hS => by subst hw; obtain ⟨a, b, c⟩ := hB; rw [ht] at a; exact kk u H1 locs1 a c hk hS)
end XCG
section XC2
variable {p : Program} {l : Launch} {e : Env} {R : Room} {s : State} {m : MethodId} {args : Array Value} {below : List Frame} {meth : Method} {c : Code} {H : Heap} {locs : List Loc} {cells slots : Nat} {Q : State → Prop}
variable {pc : Nat} {ls : Array Slot} {rest st0 : List Value} {a : Array Value} {D : va_G} {k : Nat → ClassId} {wc ws : va_W} {E : String} {A0 : Nat → Prop} {H0 : Heap}
/-- a callee's throw, to be caught here -/
theorem xt_c (hr : vx_Run p l e R s m args below meth c H locs cells slots 1 6 (F0 m pc ls st0) rest (NQ a) (XQ D k wc H.size E) (va_A wc H.size)) (hS : va_S A0 H0 H locs) (hF : ∀ q, va_A wc H.size q → A0 q)
    (kx : ∀ (ce : Cell) (q9 : Addr) (H1 : Heap) (locs1 : List Loc), va_P D vwCl wc H1 → va_D (va_A wc H.size) wc → (∀ q : Nat, q < H.size → ¬ va_A wc H.size q → H1[q]? = H[q]?) → va_S A0 H0 H1 locs1 → H1[q9]? = some ce → ce.vm = .none → s.vm.findClass E = some ce.cls → vx_W p l e R s m args below meth c H1 locs1 (cells + 1) (slots + 6) Q (F0 m pc ls rest) q9) : W p l e R s m args below meth c H locs cells slots Q (F0 m pc ls st0) := by
  intro T hT X
  rcases hr T hT X with ⟨v, st₀, t, T', L, h0, X', hL, e1, e2, hQ, st⟩ | ⟨q, st₀, t, T', L, E1, ce, h0, X', hL, e1, e2, ⟨u, hp, hB, hFr⟩, hce, hcv, hcl, st⟩
  · exact absurd hQ id
  · obtain ⟨k1, k2, k3⟩ := vx_keep h0 e1 hS (fun q _ h => hF q h) hF hL hFr
    obtain ⟨rfl, hP1, hK1, hD1⟩ := hB
    rw [← e1] at hP1
    obtain ⟨t2, a1, b1⟩ := kx ce q T'.heap (locs ++ L) hP1 hD1 k2 k3 (by rw [e1]; exact hce) hcv hcl T' rfl X'
    exact ⟨t2, st.trans a1, b1⟩
end XC2
abbrev rmL_shape : Room := { frames := 3, cells := 0, slots := 0, locals := 69 }
abbrev rmLT_shape : Room := { frames := 8, cells := 1, slots := 6, locals := 164 }
set_option maxHeartbeats 4000000 in
set_option maxRecDepth 100000 in
theorem law_shape_ok (l : Launch) (D : va_G) (k : Nat → ClassId) (wb : va_W) (wb' : (Nat → Nat) → va_W) (aU0 : Nat) (fs : List Value) (hb0 : wb[0]? = some (aU0, .inr (6, fs))) (qo : Nat) (f : Nat → Int64) (sz : Nat) (v1 : Int32) (v2 : Int32) (v3 : Int32) (v4 : Int32) (r : Int32) (hM : ∀ sz : Nat, Met l yX6_shape wsX6_shape rmX6_shape (va_Pc [.ref aU0, .int v1, .int v2, .int v3, .int v4] (PreN D k wb sz)) (va_Qi (fun r9 (_ : Nat → Nat) => r9 = r) (fun u t => PostW D k (va_A wb sz) (wb' u) t) (va_A wb sz)) 0 0 (va_A wb sz)) : vx_Met l yL_shape wsL_shape rmL_shape (va_Pc [.ref aU0, .int v1, .int v2, .int v3, .int v4, .ref qo] (PreN D k (wo k qo f ++ wb) sz)) (va_Qi (fun r9 (_ : Nat → Nat) => r9 = 0) (fun u t => PostW D k (va_A (wo k qo f ++ wb) sz) (wo k qo (vp_updL f 0 (r.toInt64)) ++ wb' u) t) (va_A (wo k qo f ++ wb) sz)) NX 0 0 (va_A (wo k qo f ++ wb) sz) := by
  refine vx_ofWH (cc := cL_shape) (maxL := 7) (ret := (some .int)) (hh := [(0, 14, 17, 13), (0, 14, 21, 15)]) (by decide) rfl ?_
  intro p e s m args below meth c s₁ B hml hv
  obtain ⟨hav, ⟨hsz, hP, hK, hD0⟩, hNW⟩ := hv
  have hx := B.exec
  have hb := B.bytes
  have hr := B.returns
  have hts := atoms_spec (ws := wsL_shape) B.pre
  have hown : s.vm.findClass RL = some m.cls := findClass_of_methodNamed B.named
  have hlocks := B.notSynchronized
  subst hsz
  have hD := hD0.self (sz := s.heap.size)
  clear hD0
  obtain ⟨A, hAe⟩ : ∃ A, va_A (wo k qo f ++ wb) s.heap.size = A := ⟨_, rfl⟩
  rw [hAe] at hD
  have hA : ∀ q : Nat, s.heap.size ≤ q → A q := fun q h => by rw [← hAe]; exact Or.inr h
  have hS : va_S A s.heap s.heap [] := va_S.rf
  have hl := lv_entry ([.ref aU0, .int v1, .int v2, .int v3, .int v4, .ref qo]) (n := 7) (Nat.le_of_ble_eq_true rfl)
  rw [show entryFrame m args 7 = entryFrame m ([.ref aU0, .int v1, .int v2, .int v3, .int v4, .ref qo] : List Value).toArray 7 from by rw [hav], lg_entry_eq]
  generalize (lg_sl ([.ref aU0, .int v1, .int v2, .int v3, .int v4, .ref qo]) ++ List.replicate (7 - (lg_sl ([.ref aU0, .int v1, .int v2, .int v3, .int v4, .ref qo])).length) Slot.unset).toArray = ls at hl ⊢
  replace hl : lv_has ls 7 [(0, .ref aU0), (1, .int v1), (2, .int v2), (3, .int v3), (4, .int v4), (5, .ref qo)] := hl
  rw [hAe]
  show W p l e rmL_shape s m args below meth c s.heap [] 0 0 _ (F0 m 0 ls [])
  refine lv_aload hx hb dL_shape_0 (lv_at hl 5 rfl) ?_
  refine lv_iconst (v := 0) hx hb dL_shape_2 (by decide) ?_
  refine lv_aload_n hx hb dL_shape_3 rfl (lv_at hl 0 rfl) ?_
  refine lv_iload_n hx hb dL_shape_4 rfl (lv_at hl 1 rfl) ?_
  refine lv_iload_n hx hb dL_shape_5 rfl (lv_at hl 2 rfl) ?_
  refine lv_iload_n hx hb dL_shape_6 rfl (lv_at hl 3 rfl) ?_
  refine lv_iload hx hb dL_shape_7 (lv_at hl 4 rfl) ?_
  have hFc := vs_free (vd_r hD) hS hA
  refine xc_iG (va_runV (As := [.int v1, .int v2, .int v3, .int v4]) (rest := [.int 0, .ref qo]) ⟨hx, hb, hml, hown, hts⟩ (hM s.heap.size) (cwV 4 hts gL_shape_X6_shape rfl rfl rfl (by decide +kernel) ⟨Nat.le_of_ble_eq_true rfl, Nat.le_of_ble_eq_true rfl⟩) ⟨pn_blind, va_recv hK (vs_r hP) (ci := 6) (q0 := 0) rfl hb0, pn_start (vs_r hP) hK (vd_r hD) hNW⟩ rfl rfl hl.1 rfl (lv_room (Nat.le_of_ble_eq_true rfl)) dL_shape_9 ⟨Nat.zero_le _, Nat.zero_le _⟩) hS hFc (fun u H1 locs hP1 hD1 hk1 hS => ?_)
  obtain ⟨hP, hD⟩ := vs_joinR hP hD hFc hk1 hP1 hD1
  clear hP1 hD1 hk1 hFc
  refine lv_i2l hx hb dL_shape_12 rfl ?_
  refine va_last hx hb hK hP hD hS 0 1 rfl rfl (vp_in_nI (n := 0) (N := 1) (by decide) (by decide)) dL_shape_13 (fun H locs hP hD hS => ?_)
  replace hP : va_P D vwCl (wo k qo (vp_updL f 0 (r.toInt64)) ++ wb' u) H := hP
  replace hD : va_D A (wo k qo (vp_updL f 0 (r.toInt64)) ++ wb' u) := hD
  refine lv_goto (tgt := 25) hx hb dL_shape_14 (by decide) ?_
  refine lv_iconst (v := 0) hx hb dL_shape_25 (by decide) ?_
  exact vx_ret (W.iret hx hb hr (fun t ht hW => ⟨⟨_, u, rfl, rfl, by rw [ht]; exact hP, va_K.moved hW.alike hK, hD⟩, hS.F ht⟩) hS.2.2 dL_shape_26)
set_option maxHeartbeats 4000000 in
set_option maxRecDepth 100000 in
theorem law_shape_x1 (l : Launch) (D : va_G) (k : Nat → ClassId) (wb : va_W) (aU0 : Nat) (fs : List Value) (hb0 : wb[0]? = some (aU0, .inr (6, fs))) (qo : Nat) (sz : Nat) (v1 : Int32) (v2 : Int32) (v3 : Int32) (v4 : Int32) (hM : ∀ sz : Nat, vx_Met l yX6_shape wsX6_shape rmTX6_shape (va_Pc [.ref aU0, .int v1, .int v2, .int v3, .int v4] (PreX D k wb sz)) NQ (XQ D k wb sz exI) 1 6 (va_A wb sz)) : vx_Met l yL_shape wsL_shape rmLT_shape (va_Pc [.ref aU0, .int v1, .int v2, .int v3, .int v4, .ref qo] (PreY D k wb sz)) (va_Qi (fun r9 (_ : Unit) => r9 = 1) (fun _ t => PostW D k (va_A wb sz) wb t) (va_A wb sz)) NX 1 6 (va_A wb sz) := by
  refine vx_ofWH (cc := cL_shape) (maxL := 7) (ret := (some .int)) (hh := [(0, 14, 17, 13), (0, 14, 21, 15)]) (by decide) rfl ?_
  intro p e s m args below meth c s₁ B hml hv
  obtain ⟨hav, ⟨⟨hsz, hP, hK, hD0⟩, hXP⟩, hXN⟩ := hv
  have hx := B.exec
  have hb := B.bytes
  have hr := B.returns
  have hts := atoms_spec (ws := wsL_shape) B.pre
  have hown : s.vm.findClass RL = some m.cls := findClass_of_methodNamed B.named
  have hlocks := B.notSynchronized
  subst hsz
  have hD := hD0.self (sz := s.heap.size)
  clear hD0
  obtain ⟨A, hAe⟩ : ∃ A, va_A wb s.heap.size = A := ⟨_, rfl⟩
  rw [hAe] at hD hXP
  have hA : ∀ q : Nat, s.heap.size ≤ q → A q := fun q h => by rw [← hAe]; exact Or.inr h
  have hS : va_S A s.heap s.heap [] := va_S.rf
  have hl := lv_entry ([.ref aU0, .int v1, .int v2, .int v3, .int v4, .ref qo]) (n := 7) (Nat.le_of_ble_eq_true rfl)
  rw [show entryFrame m args 7 = entryFrame m ([.ref aU0, .int v1, .int v2, .int v3, .int v4, .ref qo] : List Value).toArray 7 from by rw [hav], lg_entry_eq]
  generalize (lg_sl ([.ref aU0, .int v1, .int v2, .int v3, .int v4, .ref qo]) ++ List.replicate (7 - (lg_sl ([.ref aU0, .int v1, .int v2, .int v3, .int v4, .ref qo])).length) Slot.unset).toArray = ls at hl ⊢
  replace hl : lv_has ls 7 [(0, .ref aU0), (1, .int v1), (2, .int v2), (3, .int v3), (4, .int v4), (5, .ref qo)] := hl
  rw [hAe]
  show W p l e rmLT_shape s m args below meth c s.heap [] 0 0 _ (F0 m 0 ls [])
  have htab : c.exceptionTable.toList = [⟨0, 14, 17, 13⟩, ⟨0, 14, 21, 15⟩] := vx_table (x := yL_shape) B (hts (.codeWith yL_shape cL_shape 7 (some .int) [(0, 14, 17, 13), (0, 14, 21, 15)]) List.mem_cons_self)
  refine lv_aload hx hb dL_shape_0 (lv_at hl 5 rfl) ?_
  refine lv_iconst (v := 0) hx hb dL_shape_2 (by decide) ?_
  refine lv_aload_n hx hb dL_shape_3 rfl (lv_at hl 0 rfl) ?_
  refine lv_iload_n hx hb dL_shape_4 rfl (lv_at hl 1 rfl) ?_
  refine lv_iload_n hx hb dL_shape_5 rfl (lv_at hl 2 rfl) ?_
  refine lv_iload_n hx hb dL_shape_6 rfl (lv_at hl 3 rfl) ?_
  refine lv_iload hx hb dL_shape_7 (lv_at hl 4 rfl) ?_
  have hFc := vs_free hD hS hA
  refine xt_c (vx_runV (As := [.int v1, .int v2, .int v3, .int v4]) (rest := [.int 0, .ref qo]) ⟨hx, hb, hml, hown, hts⟩ (hM s.heap.size) (cwV 4 hts gL_shape_X6_shape rfl rfl rfl (by decide +kernel) ⟨Nat.le_of_ble_eq_true rfl, Nat.le_of_ble_eq_true rfl⟩) ⟨px_blind, va_recv hK hP (ci := 6) (q0 := 0) rfl hb0, px_start hP hK hD hXP hFc⟩ rfl rfl hl.1 rfl (lv_room (Nat.le_of_ble_eq_true rfl)) dL_shape_9 ⟨Nat.le_refl _, Nat.le_refl _⟩) hS hFc (fun ce q9 H1 locs hP1 hD1 hk1 hS hc1 hc2 hc3 => ?_)
  refine vx_catch (name := exI) (E := exI) hown [] ⟨0, 14, 17, 13⟩ [⟨0, 14, 21, 15⟩] htab (fun z hz => nomatch hz) rfl (by decide) (hts (.classLink RL 13 exI) (by decide +kernel)) (va_Nw.use rfl (hXP.2.2.2.1 exI (by decide +kernel))) hc1 hc2 hc3 ?_
  show W p l e rmLT_shape s m args below meth c H1 locs 1 6 _ (F0 m 17 ls [.ref q9])
  refine lv_astore (lv' := [(6, .ref q9), (0, .ref aU0), (1, .int v1), (2, .int v2), (3, .int v3), (4, .int v4), (5, .ref qo)]) hx hb dL_shape_17 hl (by decide) rfl (fun ls hl => ?_)
  refine lv_iconst (v := 1) hx hb dL_shape_19 (by decide) ?_
  have hD2 : va_D A wb := hD
  exact vx_ret (W.iret hx hb hr (fun t ht hW => ⟨⟨_, (), rfl, rfl, by rw [ht]; exact hP1, va_K.moved hW.alike hK, hD2⟩, hS.F ht⟩) (fun z hz => hS.2.2 z hz) dL_shape_20)
set_option maxHeartbeats 4000000 in
set_option maxRecDepth 100000 in
theorem law_shape_x2 (l : Launch) (D : va_G) (k : Nat → ClassId) (wb : va_W) (aU0 : Nat) (fs : List Value) (hb0 : wb[0]? = some (aU0, .inr (6, fs))) (qo : Nat) (sz : Nat) (v1 : Int32) (v2 : Int32) (v3 : Int32) (v4 : Int32) (hM : ∀ sz : Nat, vx_Met l yX6_shape wsX6_shape rmTX6_shape (va_Pc [.ref aU0, .int v1, .int v2, .int v3, .int v4] (PreX D k wb sz)) NQ (XQ D k wb sz exA) 1 6 (va_A wb sz)) : vx_Met l yL_shape wsL_shape rmLT_shape (va_Pc [.ref aU0, .int v1, .int v2, .int v3, .int v4, .ref qo] (PreY D k wb sz)) (va_Qi (fun r9 (_ : Unit) => r9 = 2) (fun _ t => PostW D k (va_A wb sz) wb t) (va_A wb sz)) NX 1 6 (va_A wb sz) := by
  refine vx_ofWH (cc := cL_shape) (maxL := 7) (ret := (some .int)) (hh := [(0, 14, 17, 13), (0, 14, 21, 15)]) (by decide) rfl ?_
  intro p e s m args below meth c s₁ B hml hv
  obtain ⟨hav, ⟨⟨hsz, hP, hK, hD0⟩, hXP⟩, hXN⟩ := hv
  have hx := B.exec
  have hb := B.bytes
  have hr := B.returns
  have hts := atoms_spec (ws := wsL_shape) B.pre
  have hown : s.vm.findClass RL = some m.cls := findClass_of_methodNamed B.named
  have hlocks := B.notSynchronized
  subst hsz
  have hD := hD0.self (sz := s.heap.size)
  clear hD0
  obtain ⟨A, hAe⟩ : ∃ A, va_A wb s.heap.size = A := ⟨_, rfl⟩
  rw [hAe] at hD hXP
  have hA : ∀ q : Nat, s.heap.size ≤ q → A q := fun q h => by rw [← hAe]; exact Or.inr h
  have hS : va_S A s.heap s.heap [] := va_S.rf
  have hl := lv_entry ([.ref aU0, .int v1, .int v2, .int v3, .int v4, .ref qo]) (n := 7) (Nat.le_of_ble_eq_true rfl)
  rw [show entryFrame m args 7 = entryFrame m ([.ref aU0, .int v1, .int v2, .int v3, .int v4, .ref qo] : List Value).toArray 7 from by rw [hav], lg_entry_eq]
  generalize (lg_sl ([.ref aU0, .int v1, .int v2, .int v3, .int v4, .ref qo]) ++ List.replicate (7 - (lg_sl ([.ref aU0, .int v1, .int v2, .int v3, .int v4, .ref qo])).length) Slot.unset).toArray = ls at hl ⊢
  replace hl : lv_has ls 7 [(0, .ref aU0), (1, .int v1), (2, .int v2), (3, .int v3), (4, .int v4), (5, .ref qo)] := hl
  rw [hAe]
  show W p l e rmLT_shape s m args below meth c s.heap [] 0 0 _ (F0 m 0 ls [])
  have htab : c.exceptionTable.toList = [⟨0, 14, 17, 13⟩, ⟨0, 14, 21, 15⟩] := vx_table (x := yL_shape) B (hts (.codeWith yL_shape cL_shape 7 (some .int) [(0, 14, 17, 13), (0, 14, 21, 15)]) List.mem_cons_self)
  refine lv_aload hx hb dL_shape_0 (lv_at hl 5 rfl) ?_
  refine lv_iconst (v := 0) hx hb dL_shape_2 (by decide) ?_
  refine lv_aload_n hx hb dL_shape_3 rfl (lv_at hl 0 rfl) ?_
  refine lv_iload_n hx hb dL_shape_4 rfl (lv_at hl 1 rfl) ?_
  refine lv_iload_n hx hb dL_shape_5 rfl (lv_at hl 2 rfl) ?_
  refine lv_iload_n hx hb dL_shape_6 rfl (lv_at hl 3 rfl) ?_
  refine lv_iload hx hb dL_shape_7 (lv_at hl 4 rfl) ?_
  have hFc := vs_free hD hS hA
  refine xt_c (vx_runV (As := [.int v1, .int v2, .int v3, .int v4]) (rest := [.int 0, .ref qo]) ⟨hx, hb, hml, hown, hts⟩ (hM s.heap.size) (cwV 4 hts gL_shape_X6_shape rfl rfl rfl (by decide +kernel) ⟨Nat.le_of_ble_eq_true rfl, Nat.le_of_ble_eq_true rfl⟩) ⟨px_blind, va_recv hK hP (ci := 6) (q0 := 0) rfl hb0, px_start hP hK hD hXP hFc⟩ rfl rfl hl.1 rfl (lv_room (Nat.le_of_ble_eq_true rfl)) dL_shape_9 ⟨Nat.le_refl _, Nat.le_refl _⟩) hS hFc (fun ce q9 H1 locs hP1 hD1 hk1 hS hc1 hc2 hc3 => ?_)
  refine vx_catch (name := exA) (E := exA) hown [⟨0, 14, 17, 13⟩] ⟨0, 14, 21, 15⟩ [] htab (List.forall_mem_cons.mpr ⟨Or.inr ⟨by decide, exI, hts (.classLink RL 13 exI) (by decide +kernel), hXN.1⟩, fun _ h => absurd h List.not_mem_nil⟩) rfl (by decide) (hts (.classLink RL 15 exA) (by decide +kernel)) (va_Nw.use rfl (hXP.2.2.2.1 exA (by decide +kernel))) hc1 hc2 hc3 ?_
  show W p l e rmLT_shape s m args below meth c H1 locs 1 6 _ (F0 m 21 ls [.ref q9])
  refine lv_astore (lv' := [(6, .ref q9), (0, .ref aU0), (1, .int v1), (2, .int v2), (3, .int v3), (4, .int v4), (5, .ref qo)]) hx hb dL_shape_21 hl (by decide) rfl (fun ls hl => ?_)
  refine lv_iconst (v := 2) hx hb dL_shape_23 (by decide) ?_
  have hD2 : va_D A wb := hD
  exact vx_ret (W.iret hx hb hr (fun t ht hW => ⟨⟨_, (), rfl, rfl, by rw [ht]; exact hP1, va_K.moved hW.alike hK, hD2⟩, hS.F ht⟩) (fun z hz => hS.2.2 z hz) dL_shape_24)
abbrev rmL_read : Room := { frames := 4, cells := 0, slots := 0, locals := 93 }
abbrev rmLT_read : Room := { frames := 8, cells := 1, slots := 6, locals := 162 }
set_option maxHeartbeats 4000000 in
set_option maxRecDepth 100000 in
theorem law_read_ok (l : Launch) (D : va_G) (k : Nat → ClassId) (wb : va_W) (wb' : (Nat → Nat) → va_W) (aU0 : Nat) (fs : List Value) (hb0 : wb[0]? = some (aU0, .inr (6, fs))) (qo : Nat) (f : Nat → Int64) (sz : Nat) (v1 : Int32) (v2 : Int32) (r : Int32) (hM : ∀ sz : Nat, Met l yX6_read wsX6_read rmX6_read (va_Pc [.ref aU0, .int v1, .int v2] (PreN D k wb sz)) (va_Qi (fun r9 (_ : Nat → Nat) => r9 = r) (fun u t => PostW D k (va_A wb sz) (wb' u) t) (va_A wb sz)) 0 0 (va_A wb sz)) : vx_Met l yL_read wsL_read rmL_read (va_Pc [.ref aU0, .int v1, .int v2, .ref qo] (PreN D k (wo k qo f ++ wb) sz)) (va_Qi (fun r9 (_ : Nat → Nat) => r9 = 0) (fun u t => PostW D k (va_A (wo k qo f ++ wb) sz) (wo k qo (vp_updL f 0 (r.toInt64)) ++ wb' u) t) (va_A (wo k qo f ++ wb) sz)) NX 0 0 (va_A (wo k qo f ++ wb) sz) := by
  refine vx_ofWH (cc := cL_read) (maxL := 5) (ret := (some .int)) (hh := [(0, 10, 13, 13), (0, 10, 17, 15), (0, 10, 21, 21)]) (by decide) rfl ?_
  intro p e s m args below meth c s₁ B hml hv
  obtain ⟨hav, ⟨hsz, hP, hK, hD0⟩, hNW⟩ := hv
  have hx := B.exec
  have hb := B.bytes
  have hr := B.returns
  have hts := atoms_spec (ws := wsL_read) B.pre
  have hown : s.vm.findClass RL = some m.cls := findClass_of_methodNamed B.named
  have hlocks := B.notSynchronized
  subst hsz
  have hD := hD0.self (sz := s.heap.size)
  clear hD0
  obtain ⟨A, hAe⟩ : ∃ A, va_A (wo k qo f ++ wb) s.heap.size = A := ⟨_, rfl⟩
  rw [hAe] at hD
  have hA : ∀ q : Nat, s.heap.size ≤ q → A q := fun q h => by rw [← hAe]; exact Or.inr h
  have hS : va_S A s.heap s.heap [] := va_S.rf
  have hl := lv_entry ([.ref aU0, .int v1, .int v2, .ref qo]) (n := 5) (Nat.le_of_ble_eq_true rfl)
  rw [show entryFrame m args 5 = entryFrame m ([.ref aU0, .int v1, .int v2, .ref qo] : List Value).toArray 5 from by rw [hav], lg_entry_eq]
  generalize (lg_sl ([.ref aU0, .int v1, .int v2, .ref qo]) ++ List.replicate (5 - (lg_sl ([.ref aU0, .int v1, .int v2, .ref qo])).length) Slot.unset).toArray = ls at hl ⊢
  replace hl : lv_has ls 5 [(0, .ref aU0), (1, .int v1), (2, .int v2), (3, .ref qo)] := hl
  rw [hAe]
  show W p l e rmL_read s m args below meth c s.heap [] 0 0 _ (F0 m 0 ls [])
  refine lv_aload_n hx hb dL_read_0 rfl (lv_at hl 3 rfl) ?_
  refine lv_iconst (v := 0) hx hb dL_read_1 (by decide) ?_
  refine lv_aload_n hx hb dL_read_2 rfl (lv_at hl 0 rfl) ?_
  refine lv_iload_n hx hb dL_read_3 rfl (lv_at hl 1 rfl) ?_
  refine lv_iload_n hx hb dL_read_4 rfl (lv_at hl 2 rfl) ?_
  have hFc := vs_free (vd_r hD) hS hA
  refine xc_iG (va_runV (As := [.int v1, .int v2]) (rest := [.int 0, .ref qo]) ⟨hx, hb, hml, hown, hts⟩ (hM s.heap.size) (cwV 2 hts gL_read_X6_read rfl rfl rfl (by decide +kernel) ⟨Nat.le_of_ble_eq_true rfl, Nat.le_of_ble_eq_true rfl⟩) ⟨pn_blind, va_recv hK (vs_r hP) (ci := 6) (q0 := 0) rfl hb0, pn_start (vs_r hP) hK (vd_r hD) hNW⟩ rfl rfl hl.1 rfl (lv_room (Nat.le_of_ble_eq_true rfl)) dL_read_5 ⟨Nat.zero_le _, Nat.zero_le _⟩) hS hFc (fun u H1 locs hP1 hD1 hk1 hS => ?_)
  obtain ⟨hP, hD⟩ := vs_joinR hP hD hFc hk1 hP1 hD1
  clear hP1 hD1 hk1 hFc
  refine lv_i2l hx hb dL_read_8 rfl ?_
  refine va_last hx hb hK hP hD hS 0 1 rfl rfl (vp_in_nI (n := 0) (N := 1) (by decide) (by decide)) dL_read_9 (fun H locs hP hD hS => ?_)
  replace hP : va_P D vwCl (wo k qo (vp_updL f 0 (r.toInt64)) ++ wb' u) H := hP
  replace hD : va_D A (wo k qo (vp_updL f 0 (r.toInt64)) ++ wb' u) := hD
  refine lv_goto (tgt := 25) hx hb dL_read_10 (by decide) ?_
  refine lv_iconst (v := 0) hx hb dL_read_25 (by decide) ?_
  exact vx_ret (W.iret hx hb hr (fun t ht hW => ⟨⟨_, u, rfl, rfl, by rw [ht]; exact hP, va_K.moved hW.alike hK, hD⟩, hS.F ht⟩) hS.2.2 dL_read_26)
set_option maxHeartbeats 4000000 in
set_option maxRecDepth 100000 in
theorem law_read_x1 (l : Launch) (D : va_G) (k : Nat → ClassId) (wb : va_W) (aU0 : Nat) (fs : List Value) (hb0 : wb[0]? = some (aU0, .inr (6, fs))) (qo : Nat) (sz : Nat) (v1 : Int32) (v2 : Int32) (hM : ∀ sz : Nat, vx_Met l yX6_read wsX6_read rmTX6_read (va_Pc [.ref aU0, .int v1, .int v2] (PreX D k wb sz)) NQ (XQ D k wb sz exI) 1 6 (va_A wb sz)) : vx_Met l yL_read wsL_read rmLT_read (va_Pc [.ref aU0, .int v1, .int v2, .ref qo] (PreY D k wb sz)) (va_Qi (fun r9 (_ : Unit) => r9 = 1) (fun _ t => PostW D k (va_A wb sz) wb t) (va_A wb sz)) NX 1 6 (va_A wb sz) := by
  refine vx_ofWH (cc := cL_read) (maxL := 5) (ret := (some .int)) (hh := [(0, 10, 13, 13), (0, 10, 17, 15), (0, 10, 21, 21)]) (by decide) rfl ?_
  intro p e s m args below meth c s₁ B hml hv
  obtain ⟨hav, ⟨⟨hsz, hP, hK, hD0⟩, hXP⟩, hXN⟩ := hv
  have hx := B.exec
  have hb := B.bytes
  have hr := B.returns
  have hts := atoms_spec (ws := wsL_read) B.pre
  have hown : s.vm.findClass RL = some m.cls := findClass_of_methodNamed B.named
  have hlocks := B.notSynchronized
  subst hsz
  have hD := hD0.self (sz := s.heap.size)
  clear hD0
  obtain ⟨A, hAe⟩ : ∃ A, va_A wb s.heap.size = A := ⟨_, rfl⟩
  rw [hAe] at hD hXP
  have hA : ∀ q : Nat, s.heap.size ≤ q → A q := fun q h => by rw [← hAe]; exact Or.inr h
  have hS : va_S A s.heap s.heap [] := va_S.rf
  have hl := lv_entry ([.ref aU0, .int v1, .int v2, .ref qo]) (n := 5) (Nat.le_of_ble_eq_true rfl)
  rw [show entryFrame m args 5 = entryFrame m ([.ref aU0, .int v1, .int v2, .ref qo] : List Value).toArray 5 from by rw [hav], lg_entry_eq]
  generalize (lg_sl ([.ref aU0, .int v1, .int v2, .ref qo]) ++ List.replicate (5 - (lg_sl ([.ref aU0, .int v1, .int v2, .ref qo])).length) Slot.unset).toArray = ls at hl ⊢
  replace hl : lv_has ls 5 [(0, .ref aU0), (1, .int v1), (2, .int v2), (3, .ref qo)] := hl
  rw [hAe]
  show W p l e rmLT_read s m args below meth c s.heap [] 0 0 _ (F0 m 0 ls [])
  have htab : c.exceptionTable.toList = [⟨0, 10, 13, 13⟩, ⟨0, 10, 17, 15⟩, ⟨0, 10, 21, 21⟩] := vx_table (x := yL_read) B (hts (.codeWith yL_read cL_read 5 (some .int) [(0, 10, 13, 13), (0, 10, 17, 15), (0, 10, 21, 21)]) List.mem_cons_self)
  refine lv_aload_n hx hb dL_read_0 rfl (lv_at hl 3 rfl) ?_
  refine lv_iconst (v := 0) hx hb dL_read_1 (by decide) ?_
  refine lv_aload_n hx hb dL_read_2 rfl (lv_at hl 0 rfl) ?_
  refine lv_iload_n hx hb dL_read_3 rfl (lv_at hl 1 rfl) ?_
  refine lv_iload_n hx hb dL_read_4 rfl (lv_at hl 2 rfl) ?_
  have hFc := vs_free hD hS hA
  refine xt_c (vx_runV (As := [.int v1, .int v2]) (rest := [.int 0, .ref qo]) ⟨hx, hb, hml, hown, hts⟩ (hM s.heap.size) (cwV 2 hts gL_read_X6_read rfl rfl rfl (by decide +kernel) ⟨Nat.le_of_ble_eq_true rfl, Nat.le_of_ble_eq_true rfl⟩) ⟨px_blind, va_recv hK hP (ci := 6) (q0 := 0) rfl hb0, px_start hP hK hD hXP hFc⟩ rfl rfl hl.1 rfl (lv_room (Nat.le_of_ble_eq_true rfl)) dL_read_5 ⟨Nat.le_refl _, Nat.le_refl _⟩) hS hFc (fun ce q9 H1 locs hP1 hD1 hk1 hS hc1 hc2 hc3 => ?_)
  refine vx_catch (name := exI) (E := exI) hown [] ⟨0, 10, 13, 13⟩ [⟨0, 10, 17, 15⟩, ⟨0, 10, 21, 21⟩] htab (fun z hz => nomatch hz) rfl (by decide) (hts (.classLink RL 13 exI) (by decide +kernel)) (va_Nw.use rfl (hXP.2.2.2.1 exI (by decide +kernel))) hc1 hc2 hc3 ?_
  show W p l e rmLT_read s m args below meth c H1 locs 1 6 _ (F0 m 13 ls [.ref q9])
  refine lv_astore (lv' := [(4, .ref q9), (0, .ref aU0), (1, .int v1), (2, .int v2), (3, .ref qo)]) hx hb dL_read_13 hl (by decide) rfl (fun ls hl => ?_)
  refine lv_iconst (v := 1) hx hb dL_read_15 (by decide) ?_
  have hD2 : va_D A wb := hD
  exact vx_ret (W.iret hx hb hr (fun t ht hW => ⟨⟨_, (), rfl, rfl, by rw [ht]; exact hP1, va_K.moved hW.alike hK, hD2⟩, hS.F ht⟩) (fun z hz => hS.2.2 z hz) dL_read_16)
set_option maxHeartbeats 4000000 in
set_option maxRecDepth 100000 in
theorem law_read_x2 (l : Launch) (D : va_G) (k : Nat → ClassId) (wb : va_W) (aU0 : Nat) (fs : List Value) (hb0 : wb[0]? = some (aU0, .inr (6, fs))) (qo : Nat) (sz : Nat) (v1 : Int32) (v2 : Int32) (hM : ∀ sz : Nat, vx_Met l yX6_read wsX6_read rmTX6_read (va_Pc [.ref aU0, .int v1, .int v2] (PreX D k wb sz)) NQ (XQ D k wb sz exA) 1 6 (va_A wb sz)) : vx_Met l yL_read wsL_read rmLT_read (va_Pc [.ref aU0, .int v1, .int v2, .ref qo] (PreY D k wb sz)) (va_Qi (fun r9 (_ : Unit) => r9 = 2) (fun _ t => PostW D k (va_A wb sz) wb t) (va_A wb sz)) NX 1 6 (va_A wb sz) := by
  refine vx_ofWH (cc := cL_read) (maxL := 5) (ret := (some .int)) (hh := [(0, 10, 13, 13), (0, 10, 17, 15), (0, 10, 21, 21)]) (by decide) rfl ?_
  intro p e s m args below meth c s₁ B hml hv
  obtain ⟨hav, ⟨⟨hsz, hP, hK, hD0⟩, hXP⟩, hXN⟩ := hv
  have hx := B.exec
  have hb := B.bytes
  have hr := B.returns
  have hts := atoms_spec (ws := wsL_read) B.pre
  have hown : s.vm.findClass RL = some m.cls := findClass_of_methodNamed B.named
  have hlocks := B.notSynchronized
  subst hsz
  have hD := hD0.self (sz := s.heap.size)
  clear hD0
  obtain ⟨A, hAe⟩ : ∃ A, va_A wb s.heap.size = A := ⟨_, rfl⟩
  rw [hAe] at hD hXP
  have hA : ∀ q : Nat, s.heap.size ≤ q → A q := fun q h => by rw [← hAe]; exact Or.inr h
  have hS : va_S A s.heap s.heap [] := va_S.rf
  have hl := lv_entry ([.ref aU0, .int v1, .int v2, .ref qo]) (n := 5) (Nat.le_of_ble_eq_true rfl)
  rw [show entryFrame m args 5 = entryFrame m ([.ref aU0, .int v1, .int v2, .ref qo] : List Value).toArray 5 from by rw [hav], lg_entry_eq]
  generalize (lg_sl ([.ref aU0, .int v1, .int v2, .ref qo]) ++ List.replicate (5 - (lg_sl ([.ref aU0, .int v1, .int v2, .ref qo])).length) Slot.unset).toArray = ls at hl ⊢
  replace hl : lv_has ls 5 [(0, .ref aU0), (1, .int v1), (2, .int v2), (3, .ref qo)] := hl
  rw [hAe]
  show W p l e rmLT_read s m args below meth c s.heap [] 0 0 _ (F0 m 0 ls [])
  have htab : c.exceptionTable.toList = [⟨0, 10, 13, 13⟩, ⟨0, 10, 17, 15⟩, ⟨0, 10, 21, 21⟩] := vx_table (x := yL_read) B (hts (.codeWith yL_read cL_read 5 (some .int) [(0, 10, 13, 13), (0, 10, 17, 15), (0, 10, 21, 21)]) List.mem_cons_self)
  refine lv_aload_n hx hb dL_read_0 rfl (lv_at hl 3 rfl) ?_
  refine lv_iconst (v := 0) hx hb dL_read_1 (by decide) ?_
  refine lv_aload_n hx hb dL_read_2 rfl (lv_at hl 0 rfl) ?_
  refine lv_iload_n hx hb dL_read_3 rfl (lv_at hl 1 rfl) ?_
  refine lv_iload_n hx hb dL_read_4 rfl (lv_at hl 2 rfl) ?_
  have hFc := vs_free hD hS hA
  refine xt_c (vx_runV (As := [.int v1, .int v2]) (rest := [.int 0, .ref qo]) ⟨hx, hb, hml, hown, hts⟩ (hM s.heap.size) (cwV 2 hts gL_read_X6_read rfl rfl rfl (by decide +kernel) ⟨Nat.le_of_ble_eq_true rfl, Nat.le_of_ble_eq_true rfl⟩) ⟨px_blind, va_recv hK hP (ci := 6) (q0 := 0) rfl hb0, px_start hP hK hD hXP hFc⟩ rfl rfl hl.1 rfl (lv_room (Nat.le_of_ble_eq_true rfl)) dL_read_5 ⟨Nat.le_refl _, Nat.le_refl _⟩) hS hFc (fun ce q9 H1 locs hP1 hD1 hk1 hS hc1 hc2 hc3 => ?_)
  refine vx_catch (name := exA) (E := exA) hown [⟨0, 10, 13, 13⟩] ⟨0, 10, 17, 15⟩ [⟨0, 10, 21, 21⟩] htab (List.forall_mem_cons.mpr ⟨Or.inr ⟨by decide, exI, hts (.classLink RL 13 exI) (by decide +kernel), hXN.1⟩, fun _ h => absurd h List.not_mem_nil⟩) rfl (by decide) (hts (.classLink RL 15 exA) (by decide +kernel)) (va_Nw.use rfl (hXP.2.2.2.1 exA (by decide +kernel))) hc1 hc2 hc3 ?_
  show W p l e rmLT_read s m args below meth c H1 locs 1 6 _ (F0 m 17 ls [.ref q9])
  refine lv_astore (lv' := [(4, .ref q9), (0, .ref aU0), (1, .int v1), (2, .int v2), (3, .ref qo)]) hx hb dL_read_17 hl (by decide) rfl (fun ls hl => ?_)
  refine lv_iconst (v := 2) hx hb dL_read_19 (by decide) ?_
  have hD2 : va_D A wb := hD
  exact vx_ret (W.iret hx hb hr (fun t ht hW => ⟨⟨_, (), rfl, rfl, by rw [ht]; exact hP1, va_K.moved hW.alike hK, hD2⟩, hS.F ht⟩) (fun z hz => hS.2.2 z hz) dL_read_20)
set_option maxHeartbeats 4000000 in
set_option maxRecDepth 100000 in
theorem law_read_x3 (l : Launch) (D : va_G) (k : Nat → ClassId) (wb : va_W) (aU0 : Nat) (fs : List Value) (hb0 : wb[0]? = some (aU0, .inr (6, fs))) (qo : Nat) (sz : Nat) (v1 : Int32) (v2 : Int32) (hM : ∀ sz : Nat, vx_Met l yX6_read wsX6_read rmTX6_read (va_Pc [.ref aU0, .int v1, .int v2] (PreX D k wb sz)) NQ (XQ D k wb sz exS) 1 6 (va_A wb sz)) : vx_Met l yL_read wsL_read rmLT_read (va_Pc [.ref aU0, .int v1, .int v2, .ref qo] (PreY D k wb sz)) (va_Qi (fun r9 (_ : Unit) => r9 = 3) (fun _ t => PostW D k (va_A wb sz) wb t) (va_A wb sz)) NX 1 6 (va_A wb sz) := by
  refine vx_ofWH (cc := cL_read) (maxL := 5) (ret := (some .int)) (hh := [(0, 10, 13, 13), (0, 10, 17, 15), (0, 10, 21, 21)]) (by decide) rfl ?_
  intro p e s m args below meth c s₁ B hml hv
  obtain ⟨hav, ⟨⟨hsz, hP, hK, hD0⟩, hXP⟩, hXN⟩ := hv
  have hx := B.exec
  have hb := B.bytes
  have hr := B.returns
  have hts := atoms_spec (ws := wsL_read) B.pre
  have hown : s.vm.findClass RL = some m.cls := findClass_of_methodNamed B.named
  have hlocks := B.notSynchronized
  subst hsz
  have hD := hD0.self (sz := s.heap.size)
  clear hD0
  obtain ⟨A, hAe⟩ : ∃ A, va_A wb s.heap.size = A := ⟨_, rfl⟩
  rw [hAe] at hD hXP
  have hA : ∀ q : Nat, s.heap.size ≤ q → A q := fun q h => by rw [← hAe]; exact Or.inr h
  have hS : va_S A s.heap s.heap [] := va_S.rf
  have hl := lv_entry ([.ref aU0, .int v1, .int v2, .ref qo]) (n := 5) (Nat.le_of_ble_eq_true rfl)
  rw [show entryFrame m args 5 = entryFrame m ([.ref aU0, .int v1, .int v2, .ref qo] : List Value).toArray 5 from by rw [hav], lg_entry_eq]
  generalize (lg_sl ([.ref aU0, .int v1, .int v2, .ref qo]) ++ List.replicate (5 - (lg_sl ([.ref aU0, .int v1, .int v2, .ref qo])).length) Slot.unset).toArray = ls at hl ⊢
  replace hl : lv_has ls 5 [(0, .ref aU0), (1, .int v1), (2, .int v2), (3, .ref qo)] := hl
  rw [hAe]
  show W p l e rmLT_read s m args below meth c s.heap [] 0 0 _ (F0 m 0 ls [])
  have htab : c.exceptionTable.toList = [⟨0, 10, 13, 13⟩, ⟨0, 10, 17, 15⟩, ⟨0, 10, 21, 21⟩] := vx_table (x := yL_read) B (hts (.codeWith yL_read cL_read 5 (some .int) [(0, 10, 13, 13), (0, 10, 17, 15), (0, 10, 21, 21)]) List.mem_cons_self)
  refine lv_aload_n hx hb dL_read_0 rfl (lv_at hl 3 rfl) ?_
  refine lv_iconst (v := 0) hx hb dL_read_1 (by decide) ?_
  refine lv_aload_n hx hb dL_read_2 rfl (lv_at hl 0 rfl) ?_
  refine lv_iload_n hx hb dL_read_3 rfl (lv_at hl 1 rfl) ?_
  refine lv_iload_n hx hb dL_read_4 rfl (lv_at hl 2 rfl) ?_
  have hFc := vs_free hD hS hA
  refine xt_c (vx_runV (As := [.int v1, .int v2]) (rest := [.int 0, .ref qo]) ⟨hx, hb, hml, hown, hts⟩ (hM s.heap.size) (cwV 2 hts gL_read_X6_read rfl rfl rfl (by decide +kernel) ⟨Nat.le_of_ble_eq_true rfl, Nat.le_of_ble_eq_true rfl⟩) ⟨px_blind, va_recv hK hP (ci := 6) (q0 := 0) rfl hb0, px_start hP hK hD hXP hFc⟩ rfl rfl hl.1 rfl (lv_room (Nat.le_of_ble_eq_true rfl)) dL_read_5 ⟨Nat.le_refl _, Nat.le_refl _⟩) hS hFc (fun ce q9 H1 locs hP1 hD1 hk1 hS hc1 hc2 hc3 => ?_)
  refine vx_catch (name := exS) (E := exS) hown [⟨0, 10, 13, 13⟩, ⟨0, 10, 17, 15⟩] ⟨0, 10, 21, 21⟩ [] htab (List.forall_mem_cons.mpr ⟨Or.inr ⟨by decide, exI, hts (.classLink RL 13 exI) (by decide +kernel), hXN.2.1⟩, List.forall_mem_cons.mpr ⟨Or.inr ⟨by decide, exA, hts (.classLink RL 15 exA) (by decide +kernel), hXN.2.2⟩, fun _ h => absurd h List.not_mem_nil⟩⟩) rfl (by decide) (hts (.classLink RL 21 exS) (by decide +kernel)) (va_Nw.use rfl (hXP.2.2.2.1 exS (by decide +kernel))) hc1 hc2 hc3 ?_
  show W p l e rmLT_read s m args below meth c H1 locs 1 6 _ (F0 m 21 ls [.ref q9])
  refine lv_astore (lv' := [(4, .ref q9), (0, .ref aU0), (1, .int v1), (2, .int v2), (3, .ref qo)]) hx hb dL_read_21 hl (by decide) rfl (fun ls hl => ?_)
  refine lv_iconst (v := 3) hx hb dL_read_23 (by decide) ?_
  have hD2 : va_D A wb := hD
  exact vx_ret (W.iret hx hb hr (fun t ht hW => ⟨⟨_, (), rfl, rfl, by rw [ht]; exact hP1, va_K.moved hW.alike hK, hD2⟩, hS.F ht⟩) (fun z hz => hS.2.2 z hz) dL_read_24)
