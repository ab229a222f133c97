/-! ===== constructors of Inputs and of the book ===== -/
def AOI (U : State) : Prop := (Cond.arrayOver (.array .int)).before #[] U = true
/-- what the words of a contract can't hold: the links of nest mates, arrays of references -/
def NW (U : State) : Prop := va_Nw (.methodLinkNest RX6 9 yX4_init "UncertainBook") U ∧ va_Nw (.methodLinkNest RX6 18 yX5_init "UncertainBook") U ∧ va_Nw (.methodLinkNest RX6 33 yX3_init "UncertainBook") U ∧ va_Nw (.methodLinkNest RX6 40 yX0_init "UncertainBook") U ∧ va_Nw (.methodLinkNest RX6 54 yX1_init "UncertainBook") U ∧ va_AO RX3 U ∧ AOI U
theorem NW.warm {s U : State} (hW : s.WarmedH U.vm) (h : NW s) : NW U := ⟨va_Nw.warmM hW h.1, va_Nw.warmM hW h.2.1, va_Nw.warmM hW h.2.2.1, va_Nw.warmM hW h.2.2.2.1, va_Nw.warmM hW h.2.2.2.2.1, h.2.2.2.2.2.1.moved hW.alike, over_moved (a := #[]) (a' := #[]) hW.alike h.2.2.2.2.2.2⟩
theorem NW.same {u U : State} (e : u.vm = U.vm) (h : NW u) : NW U := ⟨va_Nw.same rfl e h.1, va_Nw.same rfl e h.2.1, va_Nw.same rfl e h.2.2.1, va_Nw.same rfl e h.2.2.2.1, va_Nw.same rfl e h.2.2.2.2.1, h.2.2.2.2.2.1.moved (by rw [e]; exact Vm.Alike.refl U.vm), over_moved (a := #[]) (a' := #[]) (by rw [e]; exact Vm.Alike.refl U.vm) h.2.2.2.2.2.2⟩
def PreN (D : va_G) (k : Nat → ClassId) (ws : va_W) (sz : Nat) : State → Prop := fun U => PreW D k ws sz U ∧ NW U
theorem pn_blind {av : List Value} {D : va_G} {k : Nat → ClassId} {ws : va_W} {sz : Nat} : FrameBlind (va_Pc av (PreN D k ws sz)) := fun a U g mk q => by
  obtain ⟨q0, q1, q2⟩ := q
  obtain ⟨r0, r1⟩ := pw_blind (av := av) (D := D) (k := k) (ws := ws) (sz := sz) a U g mk ⟨q0, q1⟩
  exact ⟨r0, r1, NW.same (u := U) (U := U.calling g mk a) rfl q2⟩
theorem pn_start {av : List Value} {D : va_G} {k : Nat → ClassId} {ws : va_W} {H : Heap} {s : State} {A : Nat → Prop} (hP : va_P D vwCl ws H) (hK : va_K D vwCl (tyL k) s) (hD : va_D A ws) (hN : NW s) : ∀ U : State, U.heap = H → s.WarmedH U.vm → va_Pc av (PreN D k ws H.size) av.toArray U := fun U hU hW => by
  obtain ⟨a, b⟩ := pw_start (av := av) hP hK hD U hU hW
  exact ⟨a, b, hN.warm hW⟩
theorem va_mnaQ {p : Program} {l : Launch} {e : Env} {R : Room} {s : State} {m : MethodId} {args : Array Value} {below : List Frame} {meth : Method} {c : Code} {H : Heap} {locs : List Loc} {cells slots : Nat} {Q : State → Prop} {cc : ByteArray} {pc : Nat} {ls : Array Slot} {rest : List Value} {D : va_G} {cl : List vw_C} {tys : List (ClassId × FieldType)} {ws : va_W} {A : Nat → Prop} {H0 : Heap} (hexec : p.tables.exec = Jvm.exec) (hb : c.code = cc) {own : String} {index : Nat} (hown : s.vm.findClass own = some m.cls) (hclink : (Cond.classLink own index "[[I").before args s = true) (hover : AOI s) (harr : (Cond.arrayClass .int).before args s = true)
    (hK : va_K D cl tys s) {t0 t1 : Nat} {cK cI : ClassId} (ht : tys[t0]? = some (cK, .array .int)) (ht1 : tys[t1]? = some (cI, .int)) (hP : va_P D cl ws H) (hD : va_D A ws) (hS : va_S A H0 H locs) (hA : ∀ q, H0.size ≤ q → A q) {n k : Int32} {N' K' : Nat} (hn : ¬ n < 0) (hk : ¬ k < 0) (hN : n.toNatClampNeg = N') (hM : k.toNatClampNeg = K')
    (hb1 : N' * 4 ≤ 536870912) (hb2 : K' * 4 ≤ 536870912) (hb3 : K' ≤ 536870912) (hcells : cells + (1 + N') ≤ R.cells) (hslots : slots + (N' + N' * K') ≤ R.slots) (hdg : decode cc pc = .ok (.multianewarray index 2, 4))
    (kk : ∀ (q : Nat) (r : Nat → Nat) (H1 : Heap), va_P D cl ((ws ++ [(q, .inl (cK, N', .inr (.inr (.inr (.inr (fun i => if i < N' then some (r i) else none))))))]) ++ (List.range N').map (fun i => (r i, .inl (cI, (K', .inl (fun _ => 0)))))) H1 → va_D A ((ws ++ [(q, .inl (cK, N', .inr (.inr (.inr (.inr (fun i => if i < N' then some (r i) else none))))))]) ++ (List.range N').map (fun i => (r i, .inl (cI, (K', .inl (fun _ => 0)))))) → va_S A H0 H1 locs →
      W p l e R s m args below meth c H1 locs (cells + 1 + N') (slots + N' + N' * K') Q (F0 m (pc + 4) ls (.ref q :: rest))) : W p l e R s m args below meth c H locs cells slots Q (F0 m pc ls (.int k :: .int n :: rest)) := by
  have e0 : ws ++ va_pl [] (fun _ => (.inl (cI, (0, .inl (fun _ => 0))) : va_E)) = ws := List.append_nil ws
  refine va_mna (X := ws) (L := []) (f := fun _ => .inl (cI, (0, .inl (fun _ => 0)))) (ty := .int) (cy := cI) (z := (K', .inl (fun _ => 0))) hexec hb hown hclink hover harr (hK.2 t1 _ ht1).2 hK (by rw [e0]; exact hP) (by rw [e0]; exact hD) hS hA hn hk hN hM hb1 hb2 hb3 rfl rfl hcells hslots (fun c9 => ?_) hdg (fun q r cA H1 _ _ hK1 hP1 hD1 hS1 => ?_)
  · show ({ cls := c9, slots := Array.replicate K' (.int 0), vm := .none } : Cell) = _
    rw [arrV_new]
    rfl
  · have e1 := (hK.2 t0 _ ht).2
    have e2 := (hK1.2 tys.length (cA, .array .int) (by simp)).2
    have e3 : cA = cK := Option.some.inj (e2.symm.trans e1)
    subst e3
    have e4 : va_pl ([] ++ (List.range N').map r) (vr_up (fun _ => (.inl (cI, (0, .inl (fun _ => 0))) : va_E)) ((List.range N').map r) (.inl (cI, (K', .inl (fun _ => 0))))) = (List.range N').map (fun i => (r i, .inl (cI, (K', .inl (fun _ => 0))))) := by
      unfold va_pl
      rw [List.nil_append, List.map_map]
      refine List.map_congr_left (fun i hi => ?_)
      show (r i, vr_up _ _ _ (r i)) = _
      rw [vr_up_in (List.mem_map.mpr ⟨i, hi, rfl⟩)]
    rw [e4] at hP1 hD1
    exact kk q r H1 hP1 hD1 hS1
theorem va_newqQ {p : Program} {l : Launch} {e : Env} {R : Room} {s : State} {m : MethodId} {args : Array Value} {below : List Frame} {meth : Method} {c : Code} {H : Heap} {locs : List Loc} {cells slots : Nat} {Q : State → Prop} {cc : ByteArray} {pc : Nat} {ls : Array Slot} {rest : List Value} {D : va_G} {cl : List vw_C} {tys : List (ClassId × FieldType)} {ws : va_W} {A : Nat → Prop} {H0 : Heap} (hexec : p.tables.exec = Jvm.exec) (hb : c.code = cc) {own C : String} {index : Nat} (hown : s.vm.findClass own = some m.cls) (hclink : (Cond.classLink own index C).before args s = true) (hover : va_AO C s) (hK : va_K D cl tys s) {t0 : Nat} {cK : ClassId} (ht : tys[t0]? = some (cK, .object C)) (hP : va_P D cl ws H) (hD : va_D A ws) (hS : va_S A H0 H locs) (hA : ∀ q, H0.size ≤ q → A q)
    {n : Int32} {N' : Nat} (hn : ¬ n < 0) (hN : n.toNatClampNeg = N') (hbytes : N' * 4 ≤ 536870912) (hcells : cells + 1 ≤ R.cells) (hslots : slots + N' ≤ R.slots) (hdg : decode cc pc = .ok (.anewarray index, 3))
    (kk : ∀ (q : Nat) (H1 : Heap), va_P D cl (ws ++ [(q, .inl (cK, N', .inr (.inr (.inr (.inr (fun _ => none))))))]) H1 → va_D A (ws ++ [(q, .inl (cK, N', .inr (.inr (.inr (.inr (fun _ => none))))))]) → va_S A H0 H1 locs →
      W p l e R s m args below meth c H1 locs (cells + 1) (slots + N') Q (F0 m (pc + 3) ls (.ref q :: rest))) : W p l e R s m args below meth c H locs cells slots Q (F0 m pc ls (.int n :: rest)) := by
  refine va_newq hexec hb hown hclink hover hK hP hD hS hA hn hN hbytes hcells hslots hdg (fun q cA H1 hK1 hP1 hD1 hS1 => ?_)
  obtain ⟨-, -, -, -, -, e1⟩ := (hK.2 t0 _ ht).2
  obtain ⟨-, -, -, -, -, e2⟩ := (hK1.2 tys.length (cA, .object C) (by simp)).2
  have e3 : cA = cK := Option.some.inj (e2.symm.trans e1)
  subst e3
  exact kk q H1 hP1 hD1 hS1
section XN
variable {p : Program} {l : Launch} {e : Env} {R : Room} {s : State} {m : MethodId} {args : Array Value} {below : List Frame} {meth : Method} {c : Code} {H : Heap} {locs : List Loc} {cells slots : Nat} {Q : State → Prop}
variable {pc : Nat} {ls : Array Slot} {rest st0 : List Value} {a : Array Value} {A0 : Nat → Prop} {H0 : Heap} {mc ms : Nat} {D : va_G} {k : Nat → ClassId} {wc : va_W}
/-- a constructor's call -/
theorem xc_n {w1 : (Nat → Nat) → va_W} {h0 : Nat} (hr : va_Run p l e R s m args below meth c H locs cells slots mc ms (F0 m pc ls st0) rest (va_Qv (fun u : Nat → Nat => u 0 = h0) (fun u t => PostW D k (va_A wc H.size) (w1 u) t) (va_A wc H.size) a) (va_A wc H.size)) (hS : va_S A0 H0 H locs) (hF : ∀ q, va_A wc H.size q → A0 q)
    (kk : ∀ (u : Nat → Nat) (H1 : Heap) (locs1 : List Loc), u 0 = h0 → va_P D vwCl (w1 u) H1 → va_D (va_A wc H.size) (w1 u) → (∀ q : Nat, q < H.size → ¬ va_A wc H.size q → H1[q]? = H[q]?) → va_S A0 H0 H1 locs1 → W p l e R s m args below meth c H1 locs1 (cells + mc) (slots + ms) Q (F0 m (pc + 3) ls rest)) : W p l e R s m args below meth c H locs cells slots Q (F0 m pc ls st0) :=
  va_callv hr hS (fun q _ h => hF q h) hF (fun u t H1 locs1 ht hvm hw hB hz hk hS => by obtain ⟨a, b, c⟩ := hB; rw [ht] at a; exact kk u H1 locs1 hw a c hk hS)
end XN
abbrev rmX4_init : Room := { frames := 1, cells := 21, slots := 138, locals := 12 }
set_option maxHeartbeats 4000000 in
set_option maxRecDepth 100000 in
theorem met_X4_init (l : Launch) (D : va_G) (k : Nat → ClassId) (h0 sz : Nat) : Met l yX4_init wsX4_init rmX4_init (va_Pc [.ref h0] (PreN D k [(h0, .inr (4, [.null, .null, .null, .null, .null, .null, .null, .null, .null]))] sz)) (va_Qv (fun u : Nat → Nat => u 0 = h0) (fun u t => PostW D k (va_A [(h0, .inr (4, [.null, .null, .null, .null, .null, .null, .null, .null, .null]))] sz) (wI k u (fun _ => 0) (fun _ => 0) (fun _ => 0) (fun _ => 0) (fun _ => 0) (fun _ _ => 0) (fun _ => 0) (fun _ => 0) (fun _ _ => 0)) t) (va_A [(h0, .inr (4, [.null, .null, .null, .null, .null, .null, .null, .null, .null]))] sz)) 21 138 (va_A [(h0, .inr (4, [.null, .null, .null, .null, .null, .null, .null, .null, .null]))] sz) := by
  refine Met.ofW (cc := cX4_init) (maxL := 1) (ret := none) (by decide) rfl ?_
  intro p e s m args below meth c s₁ B hml hv
  obtain ⟨hav, ⟨hsz, hP, hK, hD0⟩, hNW⟩ := hv
  have hx := B.exec
  have hb := B.bytes
  have hr := B.returns
  have hts := atoms_spec (ws := wsX4_init) B.pre
  have hown : s.vm.findClass RX4 = some m.cls := findClass_of_methodNamed B.named
  have hlocks := B.notSynchronized
  have hin : meth.name = "<init>" := (name_of_methodNamed B.named B.method).1
  subst hsz
  have hD := hD0.self (sz := s.heap.size)
  clear hD0
  generalize hAe : va_A [(h0, .inr (4, [.null, .null, .null, .null, .null, .null, .null, .null, .null]))] s.heap.size = A at hD ⊢
  have hA : ∀ q : Nat, s.heap.size ≤ q → A q := fun q h => by rw [← hAe]; exact Or.inr h
  have hS : va_S A s.heap s.heap [] := va_S.rf
  have hl := lv_entry ([.ref h0]) (n := 1) (Nat.le_of_ble_eq_true rfl)
  rw [show entryFrame m args 1 = entryFrame m ([.ref h0] : List Value).toArray 1 from by rw [hav], lg_entry_eq]
  generalize (lg_sl ([.ref h0]) ++ List.replicate (1 - (lg_sl ([.ref h0])).length) Slot.unset).toArray = ls at hl ⊢
  replace hl : lv_has ls 1 [(0, .ref h0)] := hl
  have f9 := hts (.fieldLink RX4 9 "UncertainBook$Inputs" "estimates" "[I") (by decide +kernel)
  have f15 := hts (.fieldLink RX4 15 "UncertainBook$Inputs" "variances" "[I") (by decide +kernel)
  have f18 := hts (.fieldLink RX4 18 "UncertainBook$Inputs" "sorts" "[I") (by decide +kernel)
  have f21 := hts (.fieldLink RX4 21 "UncertainBook$Inputs" "widths" "[I") (by decide +kernel)
  have f24 := hts (.fieldLink RX4 24 "UncertainBook$Inputs" "counts" "[I") (by decide +kernel)
  have f29 := hts (.fieldLink RX4 29 "UncertainBook$Inputs" "readings" "[[I") (by decide +kernel)
  have f32 := hts (.fieldLink RX4 32 "UncertainBook$Inputs" "firsts" "[I") (by decide +kernel)
  have f35 := hts (.fieldLink RX4 35 "UncertainBook$Inputs" "seconds" "[I") (by decide +kernel)
  have f38 := hts (.fieldLink RX4 38 "UncertainBook$Inputs" "covariances" "[[I") (by decide +kernel)
  have iX4 : ∀ w ∈ u_ws RX4 TX4 9, w ∈ wsX4_init := by decide +kernel
  refine lv_aload_n hx hb dX4_init_0 rfl (lv_at hl 0 rfl) ?_
  refine W.objInit hx hb hown (hts (.methodLink RX4 3 objectInit) (by decide +kernel)) (hts (.instanceMethod objectInit) (by decide +kernel)) (hts (.code objectInit ⟨#[0xb1]⟩ 1 none) (by decide +kernel)) rfl (by rw [hml]; exact hl.1) rfl dX4_init_1 (Nat.le_of_ble_eq_true rfl) (Nat.le_of_ble_eq_true rfl) ?_
  refine W.eq (g2 := F0 m 4 ls []) rfl ?_
  refine lv_aload_n hx hb dX4_init_4 rfl (lv_at hl 0 rfl) ?_
  refine lv_bipush (v := 6) hx hb dX4_init_5 (by decide) ?_
  refine va_newaQ (atype := .int) (ty := .int) (t0 := 0) (a0 := (6, .inl (fun _ => 0))) hx hb (hts (.arrayClass .int) (by decide +kernel)) rfl hK rfl hP hD hS hA (fun _ => rfl) (by decide) (by decide) (Nat.le_of_ble_eq_true rfl) (Nat.le_of_ble_eq_true rfl) (Nat.le_of_ble_eq_true rfl) dX4_init_7 (fun q1 H hP hD hS => ?_)
  replace hP : va_P D vwCl [(h0, .inr (4, [.null, .null, .null, .null, .null, .null, .null, .null, .null])), (q1, .inl (k 0, 6, .inl (fun _ => 0)))] H := hP
  replace hD : va_D A [(h0, .inr (4, [.null, .null, .null, .null, .null, .null, .null, .null, .null])), (q1, .inl (k 0, 6, .inl (fun _ => 0)))] := hD
  refine W.widen (k := 1) (n := 6) (Nat.le_of_ble_eq_true rfl) (Nat.le_of_ble_eq_true rfl) ?_
  refine va_putF (D := D) (ci := 4) (v := .ref q1) (ty := .array .int) (C := RX4) (T := TX4) (N := 9) hx hb hts iX4 tyX4 tyX4_ok nmX4 hown hK hP hD hS 0 rfl rfl 0 (by decide) f9 (fun _ h9 => h9) rfl hin rfl (by decide +kernel) rfl rfl (Nat.le_of_ble_eq_true rfl) dX4_init_9 (fun H locs hP hD hS => ?_)
  replace hP : va_P D vwCl [(h0, .inr (4, [.ref q1, .null, .null, .null, .null, .null, .null, .null, .null])), (q1, .inl (k 0, 6, .inl (fun _ => 0)))] H := hP
  replace hD : va_D A [(h0, .inr (4, [.ref q1, .null, .null, .null, .null, .null, .null, .null, .null])), (q1, .inl (k 0, 6, .inl (fun _ => 0)))] := hD
  refine lv_aload_n hx hb dX4_init_12 rfl (lv_at hl 0 rfl) ?_
  refine lv_bipush (v := 6) hx hb dX4_init_13 (by decide) ?_
  refine va_newaQ (atype := .int) (ty := .int) (t0 := 0) (a0 := (6, .inl (fun _ => 0))) hx hb (hts (.arrayClass .int) (by decide +kernel)) rfl hK rfl hP hD hS hA (fun _ => rfl) (by decide) (by decide) (Nat.le_of_ble_eq_true rfl) (Nat.le_of_ble_eq_true rfl) (Nat.le_of_ble_eq_true rfl) dX4_init_15 (fun q2 H hP hD hS => ?_)
  replace hP : va_P D vwCl [(h0, .inr (4, [.ref q1, .null, .null, .null, .null, .null, .null, .null, .null])), (q1, .inl (k 0, 6, .inl (fun _ => 0))), (q2, .inl (k 0, 6, .inl (fun _ => 0)))] H := hP
  replace hD : va_D A [(h0, .inr (4, [.ref q1, .null, .null, .null, .null, .null, .null, .null, .null])), (q1, .inl (k 0, 6, .inl (fun _ => 0))), (q2, .inl (k 0, 6, .inl (fun _ => 0)))] := hD
  refine W.widen (k := 2) (n := 12) (Nat.le_of_ble_eq_true rfl) (Nat.le_of_ble_eq_true rfl) ?_
  refine va_putF (D := D) (ci := 4) (v := .ref q2) (ty := .array .int) (C := RX4) (T := TX4) (N := 9) hx hb hts iX4 tyX4 tyX4_ok nmX4 hown hK hP hD hS 0 rfl rfl 1 (by decide) f15 (fun _ h9 => h9) rfl hin rfl (by decide +kernel) rfl rfl (Nat.le_of_ble_eq_true rfl) dX4_init_17 (fun H locs hP hD hS => ?_)
  replace hP : va_P D vwCl [(h0, .inr (4, [.ref q1, .ref q2, .null, .null, .null, .null, .null, .null, .null])), (q1, .inl (k 0, 6, .inl (fun _ => 0))), (q2, .inl (k 0, 6, .inl (fun _ => 0)))] H := hP
  replace hD : va_D A [(h0, .inr (4, [.ref q1, .ref q2, .null, .null, .null, .null, .null, .null, .null])), (q1, .inl (k 0, 6, .inl (fun _ => 0))), (q2, .inl (k 0, 6, .inl (fun _ => 0)))] := hD
  refine lv_aload_n hx hb dX4_init_20 rfl (lv_at hl 0 rfl) ?_
  refine lv_bipush (v := 6) hx hb dX4_init_21 (by decide) ?_
  refine va_newaQ (atype := .int) (ty := .int) (t0 := 0) (a0 := (6, .inl (fun _ => 0))) hx hb (hts (.arrayClass .int) (by decide +kernel)) rfl hK rfl hP hD hS hA (fun _ => rfl) (by decide) (by decide) (Nat.le_of_ble_eq_true rfl) (Nat.le_of_ble_eq_true rfl) (Nat.le_of_ble_eq_true rfl) dX4_init_23 (fun q3 H hP hD hS => ?_)
  replace hP : va_P D vwCl [(h0, .inr (4, [.ref q1, .ref q2, .null, .null, .null, .null, .null, .null, .null])), (q1, .inl (k 0, 6, .inl (fun _ => 0))), (q2, .inl (k 0, 6, .inl (fun _ => 0))), (q3, .inl (k 0, 6, .inl (fun _ => 0)))] H := hP
  replace hD : va_D A [(h0, .inr (4, [.ref q1, .ref q2, .null, .null, .null, .null, .null, .null, .null])), (q1, .inl (k 0, 6, .inl (fun _ => 0))), (q2, .inl (k 0, 6, .inl (fun _ => 0))), (q3, .inl (k 0, 6, .inl (fun _ => 0)))] := hD
  refine W.widen (k := 3) (n := 18) (Nat.le_of_ble_eq_true rfl) (Nat.le_of_ble_eq_true rfl) ?_
  refine va_putF (D := D) (ci := 4) (v := .ref q3) (ty := .array .int) (C := RX4) (T := TX4) (N := 9) hx hb hts iX4 tyX4 tyX4_ok nmX4 hown hK hP hD hS 0 rfl rfl 2 (by decide) f18 (fun _ h9 => h9) rfl hin rfl (by decide +kernel) rfl rfl (Nat.le_of_ble_eq_true rfl) dX4_init_25 (fun H locs hP hD hS => ?_)
  replace hP : va_P D vwCl [(h0, .inr (4, [.ref q1, .ref q2, .ref q3, .null, .null, .null, .null, .null, .null])), (q1, .inl (k 0, 6, .inl (fun _ => 0))), (q2, .inl (k 0, 6, .inl (fun _ => 0))), (q3, .inl (k 0, 6, .inl (fun _ => 0)))] H := hP
  replace hD : va_D A [(h0, .inr (4, [.ref q1, .ref q2, .ref q3, .null, .null, .null, .null, .null, .null])), (q1, .inl (k 0, 6, .inl (fun _ => 0))), (q2, .inl (k 0, 6, .inl (fun _ => 0))), (q3, .inl (k 0, 6, .inl (fun _ => 0)))] := hD
  refine lv_aload_n hx hb dX4_init_28 rfl (lv_at hl 0 rfl) ?_
  refine lv_bipush (v := 6) hx hb dX4_init_29 (by decide) ?_
  refine va_newaQ (atype := .int) (ty := .int) (t0 := 0) (a0 := (6, .inl (fun _ => 0))) hx hb (hts (.arrayClass .int) (by decide +kernel)) rfl hK rfl hP hD hS hA (fun _ => rfl) (by decide) (by decide) (Nat.le_of_ble_eq_true rfl) (Nat.le_of_ble_eq_true rfl) (Nat.le_of_ble_eq_true rfl) dX4_init_31 (fun q4 H hP hD hS => ?_)
  replace hP : va_P D vwCl [(h0, .inr (4, [.ref q1, .ref q2, .ref q3, .null, .null, .null, .null, .null, .null])), (q1, .inl (k 0, 6, .inl (fun _ => 0))), (q2, .inl (k 0, 6, .inl (fun _ => 0))), (q3, .inl (k 0, 6, .inl (fun _ => 0))), (q4, .inl (k 0, 6, .inl (fun _ => 0)))] H := hP
  replace hD : va_D A [(h0, .inr (4, [.ref q1, .ref q2, .ref q3, .null, .null, .null, .null, .null, .null])), (q1, .inl (k 0, 6, .inl (fun _ => 0))), (q2, .inl (k 0, 6, .inl (fun _ => 0))), (q3, .inl (k 0, 6, .inl (fun _ => 0))), (q4, .inl (k 0, 6, .inl (fun _ => 0)))] := hD
  refine W.widen (k := 4) (n := 24) (Nat.le_of_ble_eq_true rfl) (Nat.le_of_ble_eq_true rfl) ?_
  refine va_putF (D := D) (ci := 4) (v := .ref q4) (ty := .array .int) (C := RX4) (T := TX4) (N := 9) hx hb hts iX4 tyX4 tyX4_ok nmX4 hown hK hP hD hS 0 rfl rfl 3 (by decide) f21 (fun _ h9 => h9) rfl hin rfl (by decide +kernel) rfl rfl (Nat.le_of_ble_eq_true rfl) dX4_init_33 (fun H locs hP hD hS => ?_)
  replace hP : va_P D vwCl [(h0, .inr (4, [.ref q1, .ref q2, .ref q3, .ref q4, .null, .null, .null, .null, .null])), (q1, .inl (k 0, 6, .inl (fun _ => 0))), (q2, .inl (k 0, 6, .inl (fun _ => 0))), (q3, .inl (k 0, 6, .inl (fun _ => 0))), (q4, .inl (k 0, 6, .inl (fun _ => 0)))] H := hP
  replace hD : va_D A [(h0, .inr (4, [.ref q1, .ref q2, .ref q3, .ref q4, .null, .null, .null, .null, .null])), (q1, .inl (k 0, 6, .inl (fun _ => 0))), (q2, .inl (k 0, 6, .inl (fun _ => 0))), (q3, .inl (k 0, 6, .inl (fun _ => 0))), (q4, .inl (k 0, 6, .inl (fun _ => 0)))] := hD
  refine lv_aload_n hx hb dX4_init_36 rfl (lv_at hl 0 rfl) ?_
  refine lv_bipush (v := 6) hx hb dX4_init_37 (by decide) ?_
  refine va_newaQ (atype := .int) (ty := .int) (t0 := 0) (a0 := (6, .inl (fun _ => 0))) hx hb (hts (.arrayClass .int) (by decide +kernel)) rfl hK rfl hP hD hS hA (fun _ => rfl) (by decide) (by decide) (Nat.le_of_ble_eq_true rfl) (Nat.le_of_ble_eq_true rfl) (Nat.le_of_ble_eq_true rfl) dX4_init_39 (fun q5 H hP hD hS => ?_)
  replace hP : va_P D vwCl [(h0, .inr (4, [.ref q1, .ref q2, .ref q3, .ref q4, .null, .null, .null, .null, .null])), (q1, .inl (k 0, 6, .inl (fun _ => 0))), (q2, .inl (k 0, 6, .inl (fun _ => 0))), (q3, .inl (k 0, 6, .inl (fun _ => 0))), (q4, .inl (k 0, 6, .inl (fun _ => 0))), (q5, .inl (k 0, 6, .inl (fun _ => 0)))] H := hP
  replace hD : va_D A [(h0, .inr (4, [.ref q1, .ref q2, .ref q3, .ref q4, .null, .null, .null, .null, .null])), (q1, .inl (k 0, 6, .inl (fun _ => 0))), (q2, .inl (k 0, 6, .inl (fun _ => 0))), (q3, .inl (k 0, 6, .inl (fun _ => 0))), (q4, .inl (k 0, 6, .inl (fun _ => 0))), (q5, .inl (k 0, 6, .inl (fun _ => 0)))] := hD
  refine W.widen (k := 5) (n := 30) (Nat.le_of_ble_eq_true rfl) (Nat.le_of_ble_eq_true rfl) ?_
  refine va_putF (D := D) (ci := 4) (v := .ref q5) (ty := .array .int) (C := RX4) (T := TX4) (N := 9) hx hb hts iX4 tyX4 tyX4_ok nmX4 hown hK hP hD hS 0 rfl rfl 4 (by decide) f24 (fun _ h9 => h9) rfl hin rfl (by decide +kernel) rfl rfl (Nat.le_of_ble_eq_true rfl) dX4_init_41 (fun H locs hP hD hS => ?_)
  replace hP : va_P D vwCl [(h0, .inr (4, [.ref q1, .ref q2, .ref q3, .ref q4, .ref q5, .null, .null, .null, .null])), (q1, .inl (k 0, 6, .inl (fun _ => 0))), (q2, .inl (k 0, 6, .inl (fun _ => 0))), (q3, .inl (k 0, 6, .inl (fun _ => 0))), (q4, .inl (k 0, 6, .inl (fun _ => 0))), (q5, .inl (k 0, 6, .inl (fun _ => 0)))] H := hP
  replace hD : va_D A [(h0, .inr (4, [.ref q1, .ref q2, .ref q3, .ref q4, .ref q5, .null, .null, .null, .null])), (q1, .inl (k 0, 6, .inl (fun _ => 0))), (q2, .inl (k 0, 6, .inl (fun _ => 0))), (q3, .inl (k 0, 6, .inl (fun _ => 0))), (q4, .inl (k 0, 6, .inl (fun _ => 0))), (q5, .inl (k 0, 6, .inl (fun _ => 0)))] := hD
  refine lv_aload_n hx hb dX4_init_44 rfl (lv_at hl 0 rfl) ?_
  refine lv_bipush (v := 6) hx hb dX4_init_45 (by decide) ?_
  refine lv_bipush (v := 8) hx hb dX4_init_47 (by decide) ?_
  refine va_mnaQ (t0 := 4) (t1 := 0) hx hb hown (hts (.classLink RX4 27 "[[I") (by decide +kernel)) hNW.2.2.2.2.2.2 (hts (.arrayClass .int) (by decide +kernel)) hK rfl rfl hP hD hS hA (by decide) (by decide) (N' := 6) (K' := 8) (by decide) (by decide) (Nat.le_of_ble_eq_true rfl) (Nat.le_of_ble_eq_true rfl) (Nat.le_of_ble_eq_true rfl) (Nat.le_of_ble_eq_true rfl) (Nat.le_of_ble_eq_true rfl) dX4_init_49 (fun q6 r6 H hP hD hS => ?_)
  replace hP : va_P D vwCl [(h0, .inr (4, [.ref q1, .ref q2, .ref q3, .ref q4, .ref q5, .null, .null, .null, .null])), (q1, .inl (k 0, 6, .inl (fun _ => 0))), (q2, .inl (k 0, 6, .inl (fun _ => 0))), (q3, .inl (k 0, 6, .inl (fun _ => 0))), (q4, .inl (k 0, 6, .inl (fun _ => 0))), (q5, .inl (k 0, 6, .inl (fun _ => 0))), (q6, .inl (k 4, 6, .inr (.inr (.inr (.inr (fun i => if i < 6 then some (r6 i) else none)))))), (r6 0, .inl (k 0, 8, .inl (fun _ => 0))), (r6 1, .inl (k 0, 8, .inl (fun _ => 0))), (r6 2, .inl (k 0, 8, .inl (fun _ => 0))), (r6 3, .inl (k 0, 8, .inl (fun _ => 0))), (r6 4, .inl (k 0, 8, .inl (fun _ => 0))), (r6 5, .inl (k 0, 8, .inl (fun _ => 0)))] H := hP
  replace hD : va_D A [(h0, .inr (4, [.ref q1, .ref q2, .ref q3, .ref q4, .ref q5, .null, .null, .null, .null])), (q1, .inl (k 0, 6, .inl (fun _ => 0))), (q2, .inl (k 0, 6, .inl (fun _ => 0))), (q3, .inl (k 0, 6, .inl (fun _ => 0))), (q4, .inl (k 0, 6, .inl (fun _ => 0))), (q5, .inl (k 0, 6, .inl (fun _ => 0))), (q6, .inl (k 4, 6, .inr (.inr (.inr (.inr (fun i => if i < 6 then some (r6 i) else none)))))), (r6 0, .inl (k 0, 8, .inl (fun _ => 0))), (r6 1, .inl (k 0, 8, .inl (fun _ => 0))), (r6 2, .inl (k 0, 8, .inl (fun _ => 0))), (r6 3, .inl (k 0, 8, .inl (fun _ => 0))), (r6 4, .inl (k 0, 8, .inl (fun _ => 0))), (r6 5, .inl (k 0, 8, .inl (fun _ => 0)))] := hD
  refine W.widen (k := 12) (n := 84) (Nat.le_of_ble_eq_true rfl) (Nat.le_of_ble_eq_true rfl) ?_
  refine va_putF (D := D) (ci := 4) (v := .ref q6) (ty := .array (.array .int)) (C := RX4) (T := TX4) (N := 9) hx hb hts iX4 tyX4 tyX4_ok nmX4 hown hK hP hD hS 0 rfl rfl 5 (by decide) f29 (fun _ h9 => h9) rfl hin rfl (by decide +kernel) rfl rfl (Nat.le_of_ble_eq_true rfl) dX4_init_53 (fun H locs hP hD hS => ?_)
  replace hP : va_P D vwCl [(h0, .inr (4, [.ref q1, .ref q2, .ref q3, .ref q4, .ref q5, .ref q6, .null, .null, .null])), (q1, .inl (k 0, 6, .inl (fun _ => 0))), (q2, .inl (k 0, 6, .inl (fun _ => 0))), (q3, .inl (k 0, 6, .inl (fun _ => 0))), (q4, .inl (k 0, 6, .inl (fun _ => 0))), (q5, .inl (k 0, 6, .inl (fun _ => 0))), (q6, .inl (k 4, 6, .inr (.inr (.inr (.inr (fun i => if i < 6 then some (r6 i) else none)))))), (r6 0, .inl (k 0, 8, .inl (fun _ => 0))), (r6 1, .inl (k 0, 8, .inl (fun _ => 0))), (r6 2, .inl (k 0, 8, .inl (fun _ => 0))), (r6 3, .inl (k 0, 8, .inl (fun _ => 0))), (r6 4, .inl (k 0, 8, .inl (fun _ => 0))), (r6 5, .inl (k 0, 8, .inl (fun _ => 0)))] H := hP
  replace hD : va_D A [(h0, .inr (4, [.ref q1, .ref q2, .ref q3, .ref q4, .ref q5, .ref q6, .null, .null, .null])), (q1, .inl (k 0, 6, .inl (fun _ => 0))), (q2, .inl (k 0, 6, .inl (fun _ => 0))), (q3, .inl (k 0, 6, .inl (fun _ => 0))), (q4, .inl (k 0, 6, .inl (fun _ => 0))), (q5, .inl (k 0, 6, .inl (fun _ => 0))), (q6, .inl (k 4, 6, .inr (.inr (.inr (.inr (fun i => if i < 6 then some (r6 i) else none)))))), (r6 0, .inl (k 0, 8, .inl (fun _ => 0))), (r6 1, .inl (k 0, 8, .inl (fun _ => 0))), (r6 2, .inl (k 0, 8, .inl (fun _ => 0))), (r6 3, .inl (k 0, 8, .inl (fun _ => 0))), (r6 4, .inl (k 0, 8, .inl (fun _ => 0))), (r6 5, .inl (k 0, 8, .inl (fun _ => 0)))] := hD
  refine lv_aload_n hx hb dX4_init_56 rfl (lv_at hl 0 rfl) ?_
  refine lv_bipush (v := 6) hx hb dX4_init_57 (by decide) ?_
  refine va_newaQ (atype := .int) (ty := .int) (t0 := 0) (a0 := (6, .inl (fun _ => 0))) hx hb (hts (.arrayClass .int) (by decide +kernel)) rfl hK rfl hP hD hS hA (fun _ => rfl) (by decide) (by decide) (Nat.le_of_ble_eq_true rfl) (Nat.le_of_ble_eq_true rfl) (Nat.le_of_ble_eq_true rfl) dX4_init_59 (fun q7 H hP hD hS => ?_)
  replace hP : va_P D vwCl [(h0, .inr (4, [.ref q1, .ref q2, .ref q3, .ref q4, .ref q5, .ref q6, .null, .null, .null])), (q1, .inl (k 0, 6, .inl (fun _ => 0))), (q2, .inl (k 0, 6, .inl (fun _ => 0))), (q3, .inl (k 0, 6, .inl (fun _ => 0))), (q4, .inl (k 0, 6, .inl (fun _ => 0))), (q5, .inl (k 0, 6, .inl (fun _ => 0))), (q6, .inl (k 4, 6, .inr (.inr (.inr (.inr (fun i => if i < 6 then some (r6 i) else none)))))), (r6 0, .inl (k 0, 8, .inl (fun _ => 0))), (r6 1, .inl (k 0, 8, .inl (fun _ => 0))), (r6 2, .inl (k 0, 8, .inl (fun _ => 0))), (r6 3, .inl (k 0, 8, .inl (fun _ => 0))), (r6 4, .inl (k 0, 8, .inl (fun _ => 0))), (r6 5, .inl (k 0, 8, .inl (fun _ => 0))), (q7, .inl (k 0, 6, .inl (fun _ => 0)))] H := hP
  replace hD : va_D A [(h0, .inr (4, [.ref q1, .ref q2, .ref q3, .ref q4, .ref q5, .ref q6, .null, .null, .null])), (q1, .inl (k 0, 6, .inl (fun _ => 0))), (q2, .inl (k 0, 6, .inl (fun _ => 0))), (q3, .inl (k 0, 6, .inl (fun _ => 0))), (q4, .inl (k 0, 6, .inl (fun _ => 0))), (q5, .inl (k 0, 6, .inl (fun _ => 0))), (q6, .inl (k 4, 6, .inr (.inr (.inr (.inr (fun i => if i < 6 then some (r6 i) else none)))))), (r6 0, .inl (k 0, 8, .inl (fun _ => 0))), (r6 1, .inl (k 0, 8, .inl (fun _ => 0))), (r6 2, .inl (k 0, 8, .inl (fun _ => 0))), (r6 3, .inl (k 0, 8, .inl (fun _ => 0))), (r6 4, .inl (k 0, 8, .inl (fun _ => 0))), (r6 5, .inl (k 0, 8, .inl (fun _ => 0))), (q7, .inl (k 0, 6, .inl (fun _ => 0)))] := hD
  refine W.widen (k := 13) (n := 90) (Nat.le_of_ble_eq_true rfl) (Nat.le_of_ble_eq_true rfl) ?_
  refine va_putF (D := D) (ci := 4) (v := .ref q7) (ty := .array .int) (C := RX4) (T := TX4) (N := 9) hx hb hts iX4 tyX4 tyX4_ok nmX4 hown hK hP hD hS 0 rfl rfl 6 (by decide) f32 (fun _ h9 => h9) rfl hin rfl (by decide +kernel) rfl rfl (Nat.le_of_ble_eq_true rfl) dX4_init_61 (fun H locs hP hD hS => ?_)
  replace hP : va_P D vwCl [(h0, .inr (4, [.ref q1, .ref q2, .ref q3, .ref q4, .ref q5, .ref q6, .ref q7, .null, .null])), (q1, .inl (k 0, 6, .inl (fun _ => 0))), (q2, .inl (k 0, 6, .inl (fun _ => 0))), (q3, .inl (k 0, 6, .inl (fun _ => 0))), (q4, .inl (k 0, 6, .inl (fun _ => 0))), (q5, .inl (k 0, 6, .inl (fun _ => 0))), (q6, .inl (k 4, 6, .inr (.inr (.inr (.inr (fun i => if i < 6 then some (r6 i) else none)))))), (r6 0, .inl (k 0, 8, .inl (fun _ => 0))), (r6 1, .inl (k 0, 8, .inl (fun _ => 0))), (r6 2, .inl (k 0, 8, .inl (fun _ => 0))), (r6 3, .inl (k 0, 8, .inl (fun _ => 0))), (r6 4, .inl (k 0, 8, .inl (fun _ => 0))), (r6 5, .inl (k 0, 8, .inl (fun _ => 0))), (q7, .inl (k 0, 6, .inl (fun _ => 0)))] H := hP
  replace hD : va_D A [(h0, .inr (4, [.ref q1, .ref q2, .ref q3, .ref q4, .ref q5, .ref q6, .ref q7, .null, .null])), (q1, .inl (k 0, 6, .inl (fun _ => 0))), (q2, .inl (k 0, 6, .inl (fun _ => 0))), (q3, .inl (k 0, 6, .inl (fun _ => 0))), (q4, .inl (k 0, 6, .inl (fun _ => 0))), (q5, .inl (k 0, 6, .inl (fun _ => 0))), (q6, .inl (k 4, 6, .inr (.inr (.inr (.inr (fun i => if i < 6 then some (r6 i) else none)))))), (r6 0, .inl (k 0, 8, .inl (fun _ => 0))), (r6 1, .inl (k 0, 8, .inl (fun _ => 0))), (r6 2, .inl (k 0, 8, .inl (fun _ => 0))), (r6 3, .inl (k 0, 8, .inl (fun _ => 0))), (r6 4, .inl (k 0, 8, .inl (fun _ => 0))), (r6 5, .inl (k 0, 8, .inl (fun _ => 0))), (q7, .inl (k 0, 6, .inl (fun _ => 0)))] := hD
  refine lv_aload_n hx hb dX4_init_64 rfl (lv_at hl 0 rfl) ?_
  refine lv_bipush (v := 6) hx hb dX4_init_65 (by decide) ?_
  refine va_newaQ (atype := .int) (ty := .int) (t0 := 0) (a0 := (6, .inl (fun _ => 0))) hx hb (hts (.arrayClass .int) (by decide +kernel)) rfl hK rfl hP hD hS hA (fun _ => rfl) (by decide) (by decide) (Nat.le_of_ble_eq_true rfl) (Nat.le_of_ble_eq_true rfl) (Nat.le_of_ble_eq_true rfl) dX4_init_67 (fun q8 H hP hD hS => ?_)
  replace hP : va_P D vwCl [(h0, .inr (4, [.ref q1, .ref q2, .ref q3, .ref q4, .ref q5, .ref q6, .ref q7, .null, .null])), (q1, .inl (k 0, 6, .inl (fun _ => 0))), (q2, .inl (k 0, 6, .inl (fun _ => 0))), (q3, .inl (k 0, 6, .inl (fun _ => 0))), (q4, .inl (k 0, 6, .inl (fun _ => 0))), (q5, .inl (k 0, 6, .inl (fun _ => 0))), (q6, .inl (k 4, 6, .inr (.inr (.inr (.inr (fun i => if i < 6 then some (r6 i) else none)))))), (r6 0, .inl (k 0, 8, .inl (fun _ => 0))), (r6 1, .inl (k 0, 8, .inl (fun _ => 0))), (r6 2, .inl (k 0, 8, .inl (fun _ => 0))), (r6 3, .inl (k 0, 8, .inl (fun _ => 0))), (r6 4, .inl (k 0, 8, .inl (fun _ => 0))), (r6 5, .inl (k 0, 8, .inl (fun _ => 0))), (q7, .inl (k 0, 6, .inl (fun _ => 0))), (q8, .inl (k 0, 6, .inl (fun _ => 0)))] H := hP
  replace hD : va_D A [(h0, .inr (4, [.ref q1, .ref q2, .ref q3, .ref q4, .ref q5, .ref q6, .ref q7, .null, .null])), (q1, .inl (k 0, 6, .inl (fun _ => 0))), (q2, .inl (k 0, 6, .inl (fun _ => 0))), (q3, .inl (k 0, 6, .inl (fun _ => 0))), (q4, .inl (k 0, 6, .inl (fun _ => 0))), (q5, .inl (k 0, 6, .inl (fun _ => 0))), (q6, .inl (k 4, 6, .inr (.inr (.inr (.inr (fun i => if i < 6 then some (r6 i) else none)))))), (r6 0, .inl (k 0, 8, .inl (fun _ => 0))), (r6 1, .inl (k 0, 8, .inl (fun _ => 0))), (r6 2, .inl (k 0, 8, .inl (fun _ => 0))), (r6 3, .inl (k 0, 8, .inl (fun _ => 0))), (r6 4, .inl (k 0, 8, .inl (fun _ => 0))), (r6 5, .inl (k 0, 8, .inl (fun _ => 0))), (q7, .inl (k 0, 6, .inl (fun _ => 0))), (q8, .inl (k 0, 6, .inl (fun _ => 0)))] := hD
  refine W.widen (k := 14) (n := 96) (Nat.le_of_ble_eq_true rfl) (Nat.le_of_ble_eq_true rfl) ?_
  refine va_putF (D := D) (ci := 4) (v := .ref q8) (ty := .array .int) (C := RX4) (T := TX4) (N := 9) hx hb hts iX4 tyX4 tyX4_ok nmX4 hown hK hP hD hS 0 rfl rfl 7 (by decide) f35 (fun _ h9 => h9) rfl hin rfl (by decide +kernel) rfl rfl (Nat.le_of_ble_eq_true rfl) dX4_init_69 (fun H locs hP hD hS => ?_)
  replace hP : va_P D vwCl [(h0, .inr (4, [.ref q1, .ref q2, .ref q3, .ref q4, .ref q5, .ref q6, .ref q7, .ref q8, .null])), (q1, .inl (k 0, 6, .inl (fun _ => 0))), (q2, .inl (k 0, 6, .inl (fun _ => 0))), (q3, .inl (k 0, 6, .inl (fun _ => 0))), (q4, .inl (k 0, 6, .inl (fun _ => 0))), (q5, .inl (k 0, 6, .inl (fun _ => 0))), (q6, .inl (k 4, 6, .inr (.inr (.inr (.inr (fun i => if i < 6 then some (r6 i) else none)))))), (r6 0, .inl (k 0, 8, .inl (fun _ => 0))), (r6 1, .inl (k 0, 8, .inl (fun _ => 0))), (r6 2, .inl (k 0, 8, .inl (fun _ => 0))), (r6 3, .inl (k 0, 8, .inl (fun _ => 0))), (r6 4, .inl (k 0, 8, .inl (fun _ => 0))), (r6 5, .inl (k 0, 8, .inl (fun _ => 0))), (q7, .inl (k 0, 6, .inl (fun _ => 0))), (q8, .inl (k 0, 6, .inl (fun _ => 0)))] H := hP
  replace hD : va_D A [(h0, .inr (4, [.ref q1, .ref q2, .ref q3, .ref q4, .ref q5, .ref q6, .ref q7, .ref q8, .null])), (q1, .inl (k 0, 6, .inl (fun _ => 0))), (q2, .inl (k 0, 6, .inl (fun _ => 0))), (q3, .inl (k 0, 6, .inl (fun _ => 0))), (q4, .inl (k 0, 6, .inl (fun _ => 0))), (q5, .inl (k 0, 6, .inl (fun _ => 0))), (q6, .inl (k 4, 6, .inr (.inr (.inr (.inr (fun i => if i < 6 then some (r6 i) else none)))))), (r6 0, .inl (k 0, 8, .inl (fun _ => 0))), (r6 1, .inl (k 0, 8, .inl (fun _ => 0))), (r6 2, .inl (k 0, 8, .inl (fun _ => 0))), (r6 3, .inl (k 0, 8, .inl (fun _ => 0))), (r6 4, .inl (k 0, 8, .inl (fun _ => 0))), (r6 5, .inl (k 0, 8, .inl (fun _ => 0))), (q7, .inl (k 0, 6, .inl (fun _ => 0))), (q8, .inl (k 0, 6, .inl (fun _ => 0)))] := hD
  refine lv_aload_n hx hb dX4_init_72 rfl (lv_at hl 0 rfl) ?_
  refine lv_bipush (v := 6) hx hb dX4_init_73 (by decide) ?_
  refine lv_bipush (v := 6) hx hb dX4_init_75 (by decide) ?_
  refine va_mnaQ (t0 := 4) (t1 := 0) hx hb hown (hts (.classLink RX4 27 "[[I") (by decide +kernel)) hNW.2.2.2.2.2.2 (hts (.arrayClass .int) (by decide +kernel)) hK rfl rfl hP hD hS hA (by decide) (by decide) (N' := 6) (K' := 6) (by decide) (by decide) (Nat.le_of_ble_eq_true rfl) (Nat.le_of_ble_eq_true rfl) (Nat.le_of_ble_eq_true rfl) (Nat.le_of_ble_eq_true rfl) (Nat.le_of_ble_eq_true rfl) dX4_init_77 (fun q9 r9 H hP hD hS => ?_)
  replace hP : va_P D vwCl [(h0, .inr (4, [.ref q1, .ref q2, .ref q3, .ref q4, .ref q5, .ref q6, .ref q7, .ref q8, .null])), (q1, .inl (k 0, 6, .inl (fun _ => 0))), (q2, .inl (k 0, 6, .inl (fun _ => 0))), (q3, .inl (k 0, 6, .inl (fun _ => 0))), (q4, .inl (k 0, 6, .inl (fun _ => 0))), (q5, .inl (k 0, 6, .inl (fun _ => 0))), (q6, .inl (k 4, 6, .inr (.inr (.inr (.inr (fun i => if i < 6 then some (r6 i) else none)))))), (r6 0, .inl (k 0, 8, .inl (fun _ => 0))), (r6 1, .inl (k 0, 8, .inl (fun _ => 0))), (r6 2, .inl (k 0, 8, .inl (fun _ => 0))), (r6 3, .inl (k 0, 8, .inl (fun _ => 0))), (r6 4, .inl (k 0, 8, .inl (fun _ => 0))), (r6 5, .inl (k 0, 8, .inl (fun _ => 0))), (q7, .inl (k 0, 6, .inl (fun _ => 0))), (q8, .inl (k 0, 6, .inl (fun _ => 0))), (q9, .inl (k 4, 6, .inr (.inr (.inr (.inr (fun i => if i < 6 then some (r9 i) else none)))))), (r9 0, .inl (k 0, 6, .inl (fun _ => 0))), (r9 1, .inl (k 0, 6, .inl (fun _ => 0))), (r9 2, .inl (k 0, 6, .inl (fun _ => 0))), (r9 3, .inl (k 0, 6, .inl (fun _ => 0))), (r9 4, .inl (k 0, 6, .inl (fun _ => 0))), (r9 5, .inl (k 0, 6, .inl (fun _ => 0)))] H := hP
  replace hD : va_D A [(h0, .inr (4, [.ref q1, .ref q2, .ref q3, .ref q4, .ref q5, .ref q6, .ref q7, .ref q8, .null])), (q1, .inl (k 0, 6, .inl (fun _ => 0))), (q2, .inl (k 0, 6, .inl (fun _ => 0))), (q3, .inl (k 0, 6, .inl (fun _ => 0))), (q4, .inl (k 0, 6, .inl (fun _ => 0))), (q5, .inl (k 0, 6, .inl (fun _ => 0))), (q6, .inl (k 4, 6, .inr (.inr (.inr (.inr (fun i => if i < 6 then some (r6 i) else none)))))), (r6 0, .inl (k 0, 8, .inl (fun _ => 0))), (r6 1, .inl (k 0, 8, .inl (fun _ => 0))), (r6 2, .inl (k 0, 8, .inl (fun _ => 0))), (r6 3, .inl (k 0, 8, .inl (fun _ => 0))), (r6 4, .inl (k 0, 8, .inl (fun _ => 0))), (r6 5, .inl (k 0, 8, .inl (fun _ => 0))), (q7, .inl (k 0, 6, .inl (fun _ => 0))), (q8, .inl (k 0, 6, .inl (fun _ => 0))), (q9, .inl (k 4, 6, .inr (.inr (.inr (.inr (fun i => if i < 6 then some (r9 i) else none)))))), (r9 0, .inl (k 0, 6, .inl (fun _ => 0))), (r9 1, .inl (k 0, 6, .inl (fun _ => 0))), (r9 2, .inl (k 0, 6, .inl (fun _ => 0))), (r9 3, .inl (k 0, 6, .inl (fun _ => 0))), (r9 4, .inl (k 0, 6, .inl (fun _ => 0))), (r9 5, .inl (k 0, 6, .inl (fun _ => 0)))] := hD
  refine W.widen (k := 21) (n := 138) (Nat.le_of_ble_eq_true rfl) (Nat.le_of_ble_eq_true rfl) ?_
  refine va_putF (D := D) (ci := 4) (v := .ref q9) (ty := .array (.array .int)) (C := RX4) (T := TX4) (N := 9) hx hb hts iX4 tyX4 tyX4_ok nmX4 hown hK hP hD hS 0 rfl rfl 8 (by decide) f38 (fun _ h9 => h9) rfl hin rfl (by decide +kernel) rfl rfl (Nat.le_of_ble_eq_true rfl) dX4_init_81 (fun H locs hP hD hS => ?_)
  replace hP : va_P D vwCl [(h0, .inr (4, [.ref q1, .ref q2, .ref q3, .ref q4, .ref q5, .ref q6, .ref q7, .ref q8, .ref q9])), (q1, .inl (k 0, 6, .inl (fun _ => 0))), (q2, .inl (k 0, 6, .inl (fun _ => 0))), (q3, .inl (k 0, 6, .inl (fun _ => 0))), (q4, .inl (k 0, 6, .inl (fun _ => 0))), (q5, .inl (k 0, 6, .inl (fun _ => 0))), (q6, .inl (k 4, 6, .inr (.inr (.inr (.inr (fun i => if i < 6 then some (r6 i) else none)))))), (r6 0, .inl (k 0, 8, .inl (fun _ => 0))), (r6 1, .inl (k 0, 8, .inl (fun _ => 0))), (r6 2, .inl (k 0, 8, .inl (fun _ => 0))), (r6 3, .inl (k 0, 8, .inl (fun _ => 0))), (r6 4, .inl (k 0, 8, .inl (fun _ => 0))), (r6 5, .inl (k 0, 8, .inl (fun _ => 0))), (q7, .inl (k 0, 6, .inl (fun _ => 0))), (q8, .inl (k 0, 6, .inl (fun _ => 0))), (q9, .inl (k 4, 6, .inr (.inr (.inr (.inr (fun i => if i < 6 then some (r9 i) else none)))))), (r9 0, .inl (k 0, 6, .inl (fun _ => 0))), (r9 1, .inl (k 0, 6, .inl (fun _ => 0))), (r9 2, .inl (k 0, 6, .inl (fun _ => 0))), (r9 3, .inl (k 0, 6, .inl (fun _ => 0))), (r9 4, .inl (k 0, 6, .inl (fun _ => 0))), (r9 5, .inl (k 0, 6, .inl (fun _ => 0)))] H := hP
  replace hD : va_D A [(h0, .inr (4, [.ref q1, .ref q2, .ref q3, .ref q4, .ref q5, .ref q6, .ref q7, .ref q8, .ref q9])), (q1, .inl (k 0, 6, .inl (fun _ => 0))), (q2, .inl (k 0, 6, .inl (fun _ => 0))), (q3, .inl (k 0, 6, .inl (fun _ => 0))), (q4, .inl (k 0, 6, .inl (fun _ => 0))), (q5, .inl (k 0, 6, .inl (fun _ => 0))), (q6, .inl (k 4, 6, .inr (.inr (.inr (.inr (fun i => if i < 6 then some (r6 i) else none)))))), (r6 0, .inl (k 0, 8, .inl (fun _ => 0))), (r6 1, .inl (k 0, 8, .inl (fun _ => 0))), (r6 2, .inl (k 0, 8, .inl (fun _ => 0))), (r6 3, .inl (k 0, 8, .inl (fun _ => 0))), (r6 4, .inl (k 0, 8, .inl (fun _ => 0))), (r6 5, .inl (k 0, 8, .inl (fun _ => 0))), (q7, .inl (k 0, 6, .inl (fun _ => 0))), (q8, .inl (k 0, 6, .inl (fun _ => 0))), (q9, .inl (k 4, 6, .inr (.inr (.inr (.inr (fun i => if i < 6 then some (r9 i) else none)))))), (r9 0, .inl (k 0, 6, .inl (fun _ => 0))), (r9 1, .inl (k 0, 6, .inl (fun _ => 0))), (r9 2, .inl (k 0, 6, .inl (fun _ => 0))), (r9 3, .inl (k 0, 6, .inl (fun _ => 0))), (r9 4, .inl (k 0, 6, .inl (fun _ => 0))), (r9 5, .inl (k 0, 6, .inl (fun _ => 0)))] := hD
  have eo7 : (fun i => if i < 6 then some (r6 i) else none) = (fun j => if j < 6 then some ((fun i => [h0, q1, q2, q3, q4, q5, q6, (r6 0), (r6 1), (r6 2), (r6 3), (r6 4), (r6 5), q7, q8, q9, (r9 0), (r9 1), (r9 2), (r9 3), (r9 4), (r9 5)].getD i 0) (7 + j)) else none) := funext fun j => by
    match j with
    | 0 => rfl
    | 1 => rfl
    | 2 => rfl
    | 3 => rfl
    | 4 => rfl
    | 5 => rfl
    | j + 6 => rw [if_neg (by omega), if_neg (by omega)]
  rw [eo7] at hP hD
  have eo16 : (fun i => if i < 6 then some (r9 i) else none) = (fun j => if j < 6 then some ((fun i => [h0, q1, q2, q3, q4, q5, q6, (r6 0), (r6 1), (r6 2), (r6 3), (r6 4), (r6 5), q7, q8, q9, (r9 0), (r9 1), (r9 2), (r9 3), (r9 4), (r9 5)].getD i 0) (16 + j)) else none) := funext fun j => by
    match j with
    | 0 => rfl
    | 1 => rfl
    | 2 => rfl
    | 3 => rfl
    | 4 => rfl
    | 5 => rfl
    | j + 6 => rw [if_neg (by omega), if_neg (by omega)]
  rw [eo16] at hP hD
  have hPf : va_P D vwCl (wI k (fun i => [h0, q1, q2, q3, q4, q5, q6, (r6 0), (r6 1), (r6 2), (r6 3), (r6 4), (r6 5), q7, q8, q9, (r9 0), (r9 1), (r9 2), (r9 3), (r9 4), (r9 5)].getD i 0) (fun _ => 0) (fun _ => 0) (fun _ => 0) (fun _ => 0) (fun _ => 0) (fun _ _ => 0) (fun _ => 0) (fun _ => 0) (fun _ _ => 0)) H := hP
  have hDf : va_D A (wI k (fun i => [h0, q1, q2, q3, q4, q5, q6, (r6 0), (r6 1), (r6 2), (r6 3), (r6 4), (r6 5), q7, q8, q9, (r9 0), (r9 1), (r9 2), (r9 3), (r9 4), (r9 5)].getD i 0) (fun _ => 0) (fun _ => 0) (fun _ => 0) (fun _ => 0) (fun _ => 0) (fun _ _ => 0) (fun _ => 0) (fun _ => 0) (fun _ _ => 0)) := hD
  exact W.vret hx hb hr (fun t ht hW => ⟨⟨(fun i => [h0, q1, q2, q3, q4, q5, q6, (r6 0), (r6 1), (r6 2), (r6 3), (r6 4), (r6 5), q7, q8, q9, (r9 0), (r9 1), (r9 2), (r9 3), (r9 4), (r9 5)].getD i 0), rfl, rfl, by rw [ht]; exact hPf, va_K.moved hW.alike hK, hDf⟩, hS.F ht⟩) hS.2.2 dX4_init_84
abbrev rmX6_init : Room := { frames := 3, cells := 41, slots := 697, locals := 60 }
set_option maxHeartbeats 4000000 in
set_option maxRecDepth 100000 in
theorem met_X6_init (l : Launch) (D : va_G) (k : Nat → ClassId) (h0 sz : Nat) : Met l yX6_init wsX6_init rmX6_init (va_Pc [.ref h0] (PreN D k [(h0, .inr (6, [.null, .null, .null, .int 0, .null, .null, .null, .null, .null]))] sz)) (va_Qv (fun u : Nat → Nat → Nat => u 0 0 = h0) (fun u t => PostW D k (va_A [(h0, .inr (6, [.null, .null, .null, .int 0, .null, .null, .null, .null, .null]))] sz) ((wU k (u 0) (u 1 0) (u 2 0) (u 3 0) (u 4 0) (u 5 0) (u 6 0) (fun _ => none) (fun _ => 0) 0) ++ (wI k (u 1) (fun _ => 0) (fun _ => 0) (fun _ => 0) (fun _ => 0) (fun _ => 0) (fun _ _ => 0) (fun _ => 0) (fun _ => 0) (fun _ _ => 0)) ++ (wL k (u 2) (fun _ => 0) 0 0) ++ (wF k (u 3) (fun _ => 0) (fun _ => 0) (fun _ => 0) (fun _ => 0) (fun _ => 0) (fun _ => 0) (fun _ => 0) 0 0) ++ (wB k (u 4) (fun _ => 0) (fun _ => 0) 0 0) ++ (wV k (u 5) (upd (fun _ => 0) 0 1) (upd (fun _ => 0) 0 200) 1) ++ (wC k (u 6) 1)) t) (va_A [(h0, .inr (6, [.null, .null, .null, .int 0, .null, .null, .null, .null, .null]))] sz)) 41 697 (va_A [(h0, .inr (6, [.null, .null, .null, .int 0, .null, .null, .null, .null, .null]))] sz) := by
  refine Met.ofW (cc := cX6_init) (maxL := 1) (ret := none) (by decide) rfl ?_
  intro p e s m args below meth c s₁ B hml hv
  obtain ⟨hav, ⟨hsz, hP, hK, hD0⟩, hNW⟩ := hv
  have hx := B.exec
  have hb := B.bytes
  have hr := B.returns
  have hts := atoms_spec (ws := wsX6_init) B.pre
  have hown : s.vm.findClass RX6 = some m.cls := findClass_of_methodNamed B.named
  have hlocks := B.notSynchronized
  have hin : meth.name = "<init>" := (name_of_methodNamed B.named B.method).1
  subst hsz
  have hD := hD0.self (sz := s.heap.size)
  clear hD0
  generalize hAe : va_A [(h0, .inr (6, [.null, .null, .null, .int 0, .null, .null, .null, .null, .null]))] s.heap.size = A at hD ⊢
  have hA : ∀ q : Nat, s.heap.size ≤ q → A q := fun q h => by rw [← hAe]; exact Or.inr h
  have hS : va_S A s.heap s.heap [] := va_S.rf
  have hl := lv_entry ([.ref h0]) (n := 1) (Nat.le_of_ble_eq_true rfl)
  rw [show entryFrame m args 1 = entryFrame m ([.ref h0] : List Value).toArray 1 from by rw [hav], lg_entry_eq]
  generalize (lg_sl ([.ref h0]) ++ List.replicate (1 - (lg_sl ([.ref h0])).length) Slot.unset).toArray = ls at hl ⊢
  replace hl : lv_has ls 1 [(0, .ref h0)] := hl
  have f10 := hts (.fieldLink RX6 10 "UncertainBook" "inputs" "LUncertainBook$Inputs;") (by decide +kernel)
  have f19 := hts (.fieldLink RX6 19 "UncertainBook" "line" "LUncertainBook$Line;") (by decide +kernel)
  have f25 := hts (.fieldLink RX6 25 "UncertainBook" "formulas" "[LUncertainBook$Formula;") (by decide +kernel)
  have f29 := hts (.fieldLink RX6 29 "UncertainBook" "models" "I") (by decide +kernel)
  have f34 := hts (.fieldLink RX6 34 "UncertainBook" "spare" "LUncertainBook$Formula;") (by decide +kernel)
  have f41 := hts (.fieldLink RX6 41 "UncertainBook" "figures" "LUncertainBook$Budget;") (by decide +kernel)
  have f48 := hts (.fieldLink RX6 48 "UncertainBook" "coverage" "LUncertainBook$Coverage;") (by decide +kernel)
  have f55 := hts (.fieldLink RX6 55 "UncertainBook" "chance" "LUncertainBook$Chance;") (by decide +kernel)
  have f59 := hts (.fieldLink RX6 59 "UncertainBook" "drawn" "[I") (by decide +kernel)
  have iX6 : ∀ w ∈ u_ws RX6 TX6 9, w ∈ wsX6_init := by decide +kernel
  have iX4 : ∀ w ∈ u_ws RX4 TX4 9, w ∈ wsX6_init := by decide +kernel
  have iX5 : ∀ w ∈ u_ws RX5 TX5 3, w ∈ wsX6_init := by decide +kernel
  have iX3 : ∀ w ∈ u_ws RX3 TX3 9, w ∈ wsX6_init := by decide +kernel
  have iX0 : ∀ w ∈ u_ws RX0 TX0 4, w ∈ wsX6_init := by decide +kernel
  have iX2 : ∀ w ∈ u_ws RX2 TX2 3, w ∈ wsX6_init := by decide +kernel
  have iX1 : ∀ w ∈ u_ws RX1 TX1 1, w ∈ wsX6_init := by decide +kernel
  refine lv_aload_n hx hb dX6_init_0 rfl (lv_at hl 0 rfl) ?_
  refine W.objInit hx hb hown (hts (.methodLink RX6 1 objectInit) (by decide +kernel)) (hts (.instanceMethod objectInit) (by decide +kernel)) (hts (.code objectInit ⟨#[0xb1]⟩ 1 none) (by decide +kernel)) rfl (by rw [hml]; exact hl.1) rfl dX6_init_1 (Nat.le_of_ble_eq_true rfl) (Nat.le_of_ble_eq_true rfl) ?_
  refine W.eq (g2 := F0 m 4 ls []) rfl ?_
  refine lv_aload_n hx hb dX6_init_4 rfl (lv_at hl 0 rfl) ?_
  refine va_new (ci := 4) (fs := [.null, .null, .null, .null, .null, .null, .null, .null, .null]) (C := RX4) (T := TX4) (N := 9) hx hb hts iX4 tyX4 tyX4_ok hown (hts (.classLink RX6 7 RX4) (by decide +kernel)) (hts (.instantiable RX4 9) (by decide +kernel)) (hts (.initialized RX4) (by decide +kernel)) hK hP hD hS hA rfl (fun j hj => by rcases (show j = 0 ∨ j = 1 ∨ j = 2 ∨ j = 3 ∨ j = 4 ∨ j = 5 ∨ j = 6 ∨ j = 7 ∨ j = 8 by omega) with rfl | rfl | rfl | rfl | rfl | rfl | rfl | rfl | rfl <;> rfl) (Nat.le_of_ble_eq_true rfl) (Nat.le_of_ble_eq_true rfl) dX6_init_5 (fun xuI H hP hD hS => ?_)
  refine W.widen (k := 1) (n := 9) (Nat.le_of_ble_eq_true rfl) (Nat.le_of_ble_eq_true rfl) ?_
  refine lv_dup hx hb dX6_init_8 rfl ?_
  have hPc := vs_r hP
  have hDc := vd_r hD
  have hFc := vs_free hDc hS hA
  refine xc_n (va_runIN (As := []) (rest := [.ref xuI, .ref h0]) ⟨hx, hb, hml, hown, hts⟩ (met_X4_init l D k xuI H.size) (⟨va_cnB 0 hts gX6_init_X4_init_n9 rfl rfl rfl hNW.1 (hts (.initialized RX4) (by decide +kernel)) (by decide +kernel) ⟨Nat.le_of_ble_eq_true rfl, Nat.le_of_ble_eq_true rfl⟩, rfl, hts (.instanceMethod yX4_init) (by decide +kernel)⟩) ⟨pn_blind, pn_start hPc hK hDc hNW⟩ rfl rfl hl.1 rfl (lv_room (Nat.le_of_ble_eq_true rfl)) dX6_init_9 ⟨Nat.le_of_ble_eq_true rfl, Nat.le_of_ble_eq_true rfl⟩) hS hFc (fun uI H1 locs huI hP1 hD1 hk1 hS => ?_)
  obtain ⟨hP9, hD9⟩ := vs_joinR hP hD hFc hk1 hP1 hD1
  clear hP1 hD1 hk1 hFc hPc hDc hP hD
  subst huI
  have hP := hP9
  have hD := hD9
  clear hP9 hD9
  generalize H1 = H at hP hS ⊢
  refine W.widen (k := 22) (n := 147) (Nat.le_of_ble_eq_true rfl) (Nat.le_of_ble_eq_true rfl) ?_
  replace hP : va_P D vwCl ([(h0, .inr (6, [.null, .null, .null, .int 0, .null, .null, .null, .null, .null]))] ++ wI k uI (fun _ => 0) (fun _ => 0) (fun _ => 0) (fun _ => 0) (fun _ => 0) (fun _ _ => 0) (fun _ => 0) (fun _ => 0) (fun _ _ => 0)) H := hP
  replace hD : va_D A ([(h0, .inr (6, [.null, .null, .null, .int 0, .null, .null, .null, .null, .null]))] ++ wI k uI (fun _ => 0) (fun _ => 0) (fun _ => 0) (fun _ => 0) (fun _ => 0) (fun _ _ => 0) (fun _ => 0) (fun _ => 0) (fun _ _ => 0)) := hD
  refine va_putF (D := D) (ci := 6) (v := .ref (uI 0)) (ty := .object RX4) (C := RX6) (T := TX6) (N := 9) hx hb hts iX6 tyX6 tyX6_ok nmX6 hown hK hP hD hS 0 rfl rfl 0 (by decide) f10 (fun _ h9 => h9) rfl hin rfl (by decide +kernel) rfl rfl (Nat.le_of_ble_eq_true rfl) dX6_init_12 (fun H locs hP hD hS => ?_)
  replace hP : va_P D vwCl ([(h0, .inr (6, [.ref (uI 0), .null, .null, .int 0, .null, .null, .null, .null, .null]))] ++ wI k uI (fun _ => 0) (fun _ => 0) (fun _ => 0) (fun _ => 0) (fun _ => 0) (fun _ _ => 0) (fun _ => 0) (fun _ => 0) (fun _ _ => 0)) H := hP
  replace hD : va_D A ([(h0, .inr (6, [.ref (uI 0), .null, .null, .int 0, .null, .null, .null, .null, .null]))] ++ wI k uI (fun _ => 0) (fun _ => 0) (fun _ => 0) (fun _ => 0) (fun _ => 0) (fun _ _ => 0) (fun _ => 0) (fun _ => 0) (fun _ _ => 0)) := hD
  refine lv_aload_n hx hb dX6_init_15 rfl (lv_at hl 0 rfl) ?_
  refine va_new (ci := 5) (fs := [.null, .int 0, .int 0]) (C := RX5) (T := TX5) (N := 3) hx hb hts iX5 tyX5 tyX5_ok hown (hts (.classLink RX6 16 RX5) (by decide +kernel)) (hts (.instantiable RX5 3) (by decide +kernel)) (hts (.initialized RX5) (by decide +kernel)) hK hP hD hS hA rfl (fun j hj => by rcases (show j = 0 ∨ j = 1 ∨ j = 2 by omega) with rfl | rfl | rfl <;> rfl) (Nat.le_of_ble_eq_true rfl) (Nat.le_of_ble_eq_true rfl) dX6_init_16 (fun xuL H hP hD hS => ?_)
  refine W.widen (k := 23) (n := 150) (Nat.le_of_ble_eq_true rfl) (Nat.le_of_ble_eq_true rfl) ?_
  refine lv_dup hx hb dX6_init_19 rfl ?_
  have hPc := vs_r hP
  have hDc := vd_r hD
  have hFc := vs_free hDc hS hA
  refine xc_n (va_runIN (As := []) (rest := [.ref xuL, .ref h0]) ⟨hx, hb, hml, hown, hts⟩ (met_X5_init l D k xuL H.size) (⟨va_cnB 0 hts gX6_init_X5_init_n18 rfl rfl rfl hNW.2.1 (hts (.initialized RX5) (by decide +kernel)) (by decide +kernel) ⟨Nat.le_of_ble_eq_true rfl, Nat.le_of_ble_eq_true rfl⟩, rfl, hts (.instanceMethod yX5_init) (by decide +kernel)⟩) ⟨pw_blind, pw_start hPc hK hDc⟩ rfl rfl hl.1 rfl (lv_room (Nat.le_of_ble_eq_true rfl)) dX6_init_20 ⟨Nat.le_of_ble_eq_true rfl, Nat.le_of_ble_eq_true rfl⟩) hS hFc (fun uL H1 locs huL hP1 hD1 hk1 hS => ?_)
  obtain ⟨hP9, hD9⟩ := vs_joinR hP hD hFc hk1 hP1 hD1
  clear hP1 hD1 hk1 hFc hPc hDc hP hD
  subst huL
  have hP := hP9
  have hD := hD9
  clear hP9 hD9
  generalize H1 = H at hP hS ⊢
  refine W.widen (k := 24) (n := 210) (Nat.le_of_ble_eq_true rfl) (Nat.le_of_ble_eq_true rfl) ?_
  replace hP : va_P D vwCl (([(h0, .inr (6, [.ref (uI 0), .null, .null, .int 0, .null, .null, .null, .null, .null]))] ++ wI k uI (fun _ => 0) (fun _ => 0) (fun _ => 0) (fun _ => 0) (fun _ => 0) (fun _ _ => 0) (fun _ => 0) (fun _ => 0) (fun _ _ => 0)) ++ wL k uL (fun _ => 0) 0 0) H := hP
  replace hD : va_D A (([(h0, .inr (6, [.ref (uI 0), .null, .null, .int 0, .null, .null, .null, .null, .null]))] ++ wI k uI (fun _ => 0) (fun _ => 0) (fun _ => 0) (fun _ => 0) (fun _ => 0) (fun _ _ => 0) (fun _ => 0) (fun _ => 0) (fun _ _ => 0)) ++ wL k uL (fun _ => 0) 0 0) := hD
  refine va_putF (D := D) (ci := 6) (v := .ref (uL 0)) (ty := .object RX5) (C := RX6) (T := TX6) (N := 9) hx hb hts iX6 tyX6 tyX6_ok nmX6 hown hK hP hD hS 0 rfl rfl 1 (by decide) f19 (fun _ h9 => h9) rfl hin rfl (by decide +kernel) rfl rfl (Nat.le_of_ble_eq_true rfl) dX6_init_23 (fun H locs hP hD hS => ?_)
  replace hP : va_P D vwCl (([(h0, .inr (6, [.ref (uI 0), .ref (uL 0), .null, .int 0, .null, .null, .null, .null, .null]))] ++ wI k uI (fun _ => 0) (fun _ => 0) (fun _ => 0) (fun _ => 0) (fun _ => 0) (fun _ _ => 0) (fun _ => 0) (fun _ => 0) (fun _ _ => 0)) ++ wL k uL (fun _ => 0) 0 0) H := hP
  replace hD : va_D A (([(h0, .inr (6, [.ref (uI 0), .ref (uL 0), .null, .int 0, .null, .null, .null, .null, .null]))] ++ wI k uI (fun _ => 0) (fun _ => 0) (fun _ => 0) (fun _ => 0) (fun _ => 0) (fun _ _ => 0) (fun _ => 0) (fun _ => 0) (fun _ _ => 0)) ++ wL k uL (fun _ => 0) 0 0) := hD
  refine lv_aload_n hx hb dX6_init_26 rfl (lv_at hl 0 rfl) ?_
  refine lv_bipush (v := 8) hx hb dX6_init_27 (by decide) ?_
  refine va_newqQ (t0 := 3) hx hb hown (hts (.classLink RX6 23 RX3) (by decide +kernel)) hNW.2.2.2.2.2.1 hK rfl hP hD hS hA (n := 8) (N' := 8) (by decide) (by decide) (Nat.le_of_ble_eq_true rfl) (Nat.le_of_ble_eq_true rfl) (Nat.le_of_ble_eq_true rfl) dX6_init_29 (fun qf H hP hD hS => ?_)
  refine W.widen (k := 25) (n := 218) (Nat.le_of_ble_eq_true rfl) (Nat.le_of_ble_eq_true rfl) ?_
  replace hP : va_P D vwCl ((([(h0, .inr (6, [.ref (uI 0), .ref (uL 0), .null, .int 0, .null, .null, .null, .null, .null]))] ++ wI k uI (fun _ => 0) (fun _ => 0) (fun _ => 0) (fun _ => 0) (fun _ => 0) (fun _ _ => 0) (fun _ => 0) (fun _ => 0) (fun _ _ => 0)) ++ wL k uL (fun _ => 0) 0 0) ++ [(qf, .inl (k 3, 8, .inr (.inr (.inr (.inr (fun _ => none))))))]) H := hP
  replace hD : va_D A ((([(h0, .inr (6, [.ref (uI 0), .ref (uL 0), .null, .int 0, .null, .null, .null, .null, .null]))] ++ wI k uI (fun _ => 0) (fun _ => 0) (fun _ => 0) (fun _ => 0) (fun _ => 0) (fun _ _ => 0) (fun _ => 0) (fun _ => 0) (fun _ _ => 0)) ++ wL k uL (fun _ => 0) 0 0) ++ [(qf, .inl (k 3, 8, .inr (.inr (.inr (.inr (fun _ => none))))))]) := hD
  refine va_putF (D := D) (ci := 6) (v := .ref qf) (ty := .array (.object RX3)) (C := RX6) (T := TX6) (N := 9) hx hb hts iX6 tyX6 tyX6_ok nmX6 hown hK hP hD hS 0 rfl rfl 2 (by decide) f25 (fun _ h9 => h9) rfl hin rfl (by decide +kernel) rfl rfl (Nat.le_of_ble_eq_true rfl) dX6_init_32 (fun H locs hP hD hS => ?_)
  replace hP : va_P D vwCl ((([(h0, .inr (6, [.ref (uI 0), .ref (uL 0), .ref qf, .int 0, .null, .null, .null, .null, .null]))] ++ wI k uI (fun _ => 0) (fun _ => 0) (fun _ => 0) (fun _ => 0) (fun _ => 0) (fun _ _ => 0) (fun _ => 0) (fun _ => 0) (fun _ _ => 0)) ++ wL k uL (fun _ => 0) 0 0) ++ [(qf, .inl (k 3, 8, .inr (.inr (.inr (.inr (fun _ => none))))))]) H := hP
  replace hD : va_D A ((([(h0, .inr (6, [.ref (uI 0), .ref (uL 0), .ref qf, .int 0, .null, .null, .null, .null, .null]))] ++ wI k uI (fun _ => 0) (fun _ => 0) (fun _ => 0) (fun _ => 0) (fun _ => 0) (fun _ _ => 0) (fun _ => 0) (fun _ => 0) (fun _ _ => 0)) ++ wL k uL (fun _ => 0) 0 0) ++ [(qf, .inl (k 3, 8, .inr (.inr (.inr (.inr (fun _ => none))))))]) := hD
  refine lv_aload_n hx hb dX6_init_35 rfl (lv_at hl 0 rfl) ?_
  refine lv_iconst (v := 0) hx hb dX6_init_36 (by decide) ?_
  refine va_put (D := D) (ci := 6) (v := .int 0) (ty := .int) (C := RX6) (T := TX6) (N := 9) hx hb hts iX6 tyX6 tyX6_ok nmX6 hown hK hP hD hS 0 rfl rfl 3 (by decide) f29 (fun _ h9 => h9) rfl (by decide +kernel) rfl rfl (Nat.le_of_ble_eq_true rfl) dX6_init_37 (fun H locs hP hD hS => ?_)
  replace hP : va_P D vwCl ((([(h0, .inr (6, [.ref (uI 0), .ref (uL 0), .ref qf, .int 0, .null, .null, .null, .null, .null]))] ++ wI k uI (fun _ => 0) (fun _ => 0) (fun _ => 0) (fun _ => 0) (fun _ => 0) (fun _ _ => 0) (fun _ => 0) (fun _ => 0) (fun _ _ => 0)) ++ wL k uL (fun _ => 0) 0 0) ++ [(qf, .inl (k 3, 8, .inr (.inr (.inr (.inr (fun _ => none))))))]) H := hP
  replace hD : va_D A ((([(h0, .inr (6, [.ref (uI 0), .ref (uL 0), .ref qf, .int 0, .null, .null, .null, .null, .null]))] ++ wI k uI (fun _ => 0) (fun _ => 0) (fun _ => 0) (fun _ => 0) (fun _ => 0) (fun _ _ => 0) (fun _ => 0) (fun _ => 0) (fun _ _ => 0)) ++ wL k uL (fun _ => 0) 0 0) ++ [(qf, .inl (k 3, 8, .inr (.inr (.inr (.inr (fun _ => none))))))]) := hD
  refine lv_aload_n hx hb dX6_init_40 rfl (lv_at hl 0 rfl) ?_
  refine va_new (ci := 3) (fs := [.null, .null, .null, .null, .null, .null, .null, .int 0, .int 0]) (C := RX3) (T := TX3) (N := 9) hx hb hts iX3 tyX3 tyX3_ok hown (hts (.classLink RX6 23 RX3) (by decide +kernel)) (hts (.instantiable RX3 9) (by decide +kernel)) (hts (.initialized RX3) (by decide +kernel)) hK hP hD hS hA rfl (fun j hj => by rcases (show j = 0 ∨ j = 1 ∨ j = 2 ∨ j = 3 ∨ j = 4 ∨ j = 5 ∨ j = 6 ∨ j = 7 ∨ j = 8 by omega) with rfl | rfl | rfl | rfl | rfl | rfl | rfl | rfl | rfl <;> rfl) (Nat.le_of_ble_eq_true rfl) (Nat.le_of_ble_eq_true rfl) dX6_init_41 (fun xuS H hP hD hS => ?_)
  refine W.widen (k := 26) (n := 227) (Nat.le_of_ble_eq_true rfl) (Nat.le_of_ble_eq_true rfl) ?_
  refine lv_dup hx hb dX6_init_44 rfl ?_
  have hPc := vs_r hP
  have hDc := vd_r hD
  have hFc := vs_free hDc hS hA
  refine xc_n (va_runIN (As := []) (rest := [.ref xuS, .ref h0]) ⟨hx, hb, hml, hown, hts⟩ (met_X3_init l D k xuS H.size) (⟨va_cnB 0 hts gX6_init_X3_init_n33 rfl rfl rfl hNW.2.2.1 (hts (.initialized RX3) (by decide +kernel)) (by decide +kernel) ⟨Nat.le_of_ble_eq_true rfl, Nat.le_of_ble_eq_true rfl⟩, rfl, hts (.instanceMethod yX3_init) (by decide +kernel)⟩) ⟨pw_blind, pw_start hPc hK hDc⟩ rfl rfl hl.1 rfl (lv_room (Nat.le_of_ble_eq_true rfl)) dX6_init_45 ⟨Nat.le_of_ble_eq_true rfl, Nat.le_of_ble_eq_true rfl⟩) hS hFc (fun uS H1 locs huS hP1 hD1 hk1 hS => ?_)
  obtain ⟨hP9, hD9⟩ := vs_joinR hP hD hFc hk1 hP1 hD1
  clear hP1 hD1 hk1 hFc hPc hDc hP hD
  subst huS
  have hP := hP9
  have hD := hD9
  clear hP9 hD9
  generalize H1 = H at hP hS ⊢
  refine W.widen (k := 33) (n := 647) (Nat.le_of_ble_eq_true rfl) (Nat.le_of_ble_eq_true rfl) ?_
  replace hP : va_P D vwCl (((([(h0, .inr (6, [.ref (uI 0), .ref (uL 0), .ref qf, .int 0, .null, .null, .null, .null, .null]))] ++ wI k uI (fun _ => 0) (fun _ => 0) (fun _ => 0) (fun _ => 0) (fun _ => 0) (fun _ _ => 0) (fun _ => 0) (fun _ => 0) (fun _ _ => 0)) ++ wL k uL (fun _ => 0) 0 0) ++ [(qf, .inl (k 3, 8, .inr (.inr (.inr (.inr (fun _ => none))))))]) ++ wF k uS (fun _ => 0) (fun _ => 0) (fun _ => 0) (fun _ => 0) (fun _ => 0) (fun _ => 0) (fun _ => 0) 0 0) H := hP
  replace hD : va_D A (((([(h0, .inr (6, [.ref (uI 0), .ref (uL 0), .ref qf, .int 0, .null, .null, .null, .null, .null]))] ++ wI k uI (fun _ => 0) (fun _ => 0) (fun _ => 0) (fun _ => 0) (fun _ => 0) (fun _ _ => 0) (fun _ => 0) (fun _ => 0) (fun _ _ => 0)) ++ wL k uL (fun _ => 0) 0 0) ++ [(qf, .inl (k 3, 8, .inr (.inr (.inr (.inr (fun _ => none))))))]) ++ wF k uS (fun _ => 0) (fun _ => 0) (fun _ => 0) (fun _ => 0) (fun _ => 0) (fun _ => 0) (fun _ => 0) 0 0) := hD
  refine va_put (D := D) (ci := 6) (v := .ref (uS 0)) (ty := .object RX3) (C := RX6) (T := TX6) (N := 9) hx hb hts iX6 tyX6 tyX6_ok nmX6 hown hK hP hD hS 0 rfl rfl 4 (by decide) f34 (fun _ h9 => h9) rfl (by decide +kernel) rfl rfl (Nat.le_of_ble_eq_true rfl) dX6_init_48 (fun H locs hP hD hS => ?_)
  replace hP : va_P D vwCl (((([(h0, .inr (6, [.ref (uI 0), .ref (uL 0), .ref qf, .int 0, .ref (uS 0), .null, .null, .null, .null]))] ++ wI k uI (fun _ => 0) (fun _ => 0) (fun _ => 0) (fun _ => 0) (fun _ => 0) (fun _ _ => 0) (fun _ => 0) (fun _ => 0) (fun _ _ => 0)) ++ wL k uL (fun _ => 0) 0 0) ++ [(qf, .inl (k 3, 8, .inr (.inr (.inr (.inr (fun _ => none))))))]) ++ wF k uS (fun _ => 0) (fun _ => 0) (fun _ => 0) (fun _ => 0) (fun _ => 0) (fun _ => 0) (fun _ => 0) 0 0) H := hP
  replace hD : va_D A (((([(h0, .inr (6, [.ref (uI 0), .ref (uL 0), .ref qf, .int 0, .ref (uS 0), .null, .null, .null, .null]))] ++ wI k uI (fun _ => 0) (fun _ => 0) (fun _ => 0) (fun _ => 0) (fun _ => 0) (fun _ _ => 0) (fun _ => 0) (fun _ => 0) (fun _ _ => 0)) ++ wL k uL (fun _ => 0) 0 0) ++ [(qf, .inl (k 3, 8, .inr (.inr (.inr (.inr (fun _ => none))))))]) ++ wF k uS (fun _ => 0) (fun _ => 0) (fun _ => 0) (fun _ => 0) (fun _ => 0) (fun _ => 0) (fun _ => 0) 0 0) := hD
  refine lv_aload_n hx hb dX6_init_51 rfl (lv_at hl 0 rfl) ?_
  refine va_new (ci := 0) (fs := [.null, .null, .long 0, .long 0]) (C := RX0) (T := TX0) (N := 4) hx hb hts iX0 tyX0 tyX0_ok hown (hts (.classLink RX6 38 RX0) (by decide +kernel)) (hts (.instantiable RX0 4) (by decide +kernel)) (hts (.initialized RX0) (by decide +kernel)) hK hP hD hS hA rfl (fun j hj => by rcases (show j = 0 ∨ j = 1 ∨ j = 2 ∨ j = 3 by omega) with rfl | rfl | rfl | rfl <;> rfl) (Nat.le_of_ble_eq_true rfl) (Nat.le_of_ble_eq_true rfl) dX6_init_52 (fun xuB H hP hD hS => ?_)
  refine W.widen (k := 34) (n := 651) (Nat.le_of_ble_eq_true rfl) (Nat.le_of_ble_eq_true rfl) ?_
  refine lv_dup hx hb dX6_init_55 rfl ?_
  have hPc := vs_r hP
  have hDc := vd_r hD
  have hFc := vs_free hDc hS hA
  refine xc_n (va_runIN (As := []) (rest := [.ref xuB, .ref h0]) ⟨hx, hb, hml, hown, hts⟩ (met_X0_init l D k xuB H.size) (⟨va_cnB 0 hts gX6_init_X0_init_n40 rfl rfl rfl hNW.2.2.2.1 (hts (.initialized RX0) (by decide +kernel)) (by decide +kernel) ⟨Nat.le_of_ble_eq_true rfl, Nat.le_of_ble_eq_true rfl⟩, rfl, hts (.instanceMethod yX0_init) (by decide +kernel)⟩) ⟨pw_blind, pw_start hPc hK hDc⟩ rfl rfl hl.1 rfl (lv_room (Nat.le_of_ble_eq_true rfl)) dX6_init_56 ⟨Nat.le_of_ble_eq_true rfl, Nat.le_of_ble_eq_true rfl⟩) hS hFc (fun uB H1 locs huB hP1 hD1 hk1 hS => ?_)
  obtain ⟨hP9, hD9⟩ := vs_joinR hP hD hFc hk1 hP1 hD1
  clear hP1 hD1 hk1 hFc hPc hDc hP hD
  subst huB
  have hP := hP9
  have hD := hD9
  clear hP9 hD9
  generalize H1 = H at hP hS ⊢
  refine W.widen (k := 36) (n := 663) (Nat.le_of_ble_eq_true rfl) (Nat.le_of_ble_eq_true rfl) ?_
  replace hP : va_P D vwCl ((((([(h0, .inr (6, [.ref (uI 0), .ref (uL 0), .ref qf, .int 0, .ref (uS 0), .null, .null, .null, .null]))] ++ wI k uI (fun _ => 0) (fun _ => 0) (fun _ => 0) (fun _ => 0) (fun _ => 0) (fun _ _ => 0) (fun _ => 0) (fun _ => 0) (fun _ _ => 0)) ++ wL k uL (fun _ => 0) 0 0) ++ [(qf, .inl (k 3, 8, .inr (.inr (.inr (.inr (fun _ => none))))))]) ++ wF k uS (fun _ => 0) (fun _ => 0) (fun _ => 0) (fun _ => 0) (fun _ => 0) (fun _ => 0) (fun _ => 0) 0 0) ++ wB k uB (fun _ => 0) (fun _ => 0) 0 0) H := hP
  replace hD : va_D A ((((([(h0, .inr (6, [.ref (uI 0), .ref (uL 0), .ref qf, .int 0, .ref (uS 0), .null, .null, .null, .null]))] ++ wI k uI (fun _ => 0) (fun _ => 0) (fun _ => 0) (fun _ => 0) (fun _ => 0) (fun _ _ => 0) (fun _ => 0) (fun _ => 0) (fun _ _ => 0)) ++ wL k uL (fun _ => 0) 0 0) ++ [(qf, .inl (k 3, 8, .inr (.inr (.inr (.inr (fun _ => none))))))]) ++ wF k uS (fun _ => 0) (fun _ => 0) (fun _ => 0) (fun _ => 0) (fun _ => 0) (fun _ => 0) (fun _ => 0) 0 0) ++ wB k uB (fun _ => 0) (fun _ => 0) 0 0) := hD
  refine va_putF (D := D) (ci := 6) (v := .ref (uB 0)) (ty := .object RX0) (C := RX6) (T := TX6) (N := 9) hx hb hts iX6 tyX6 tyX6_ok nmX6 hown hK hP hD hS 0 rfl rfl 5 (by decide) f41 (fun _ h9 => h9) rfl hin rfl (by decide +kernel) rfl rfl (Nat.le_of_ble_eq_true rfl) dX6_init_59 (fun H locs hP hD hS => ?_)
  replace hP : va_P D vwCl ((((([(h0, .inr (6, [.ref (uI 0), .ref (uL 0), .ref qf, .int 0, .ref (uS 0), .ref (uB 0), .null, .null, .null]))] ++ wI k uI (fun _ => 0) (fun _ => 0) (fun _ => 0) (fun _ => 0) (fun _ => 0) (fun _ _ => 0) (fun _ => 0) (fun _ => 0) (fun _ _ => 0)) ++ wL k uL (fun _ => 0) 0 0) ++ [(qf, .inl (k 3, 8, .inr (.inr (.inr (.inr (fun _ => none))))))]) ++ wF k uS (fun _ => 0) (fun _ => 0) (fun _ => 0) (fun _ => 0) (fun _ => 0) (fun _ => 0) (fun _ => 0) 0 0) ++ wB k uB (fun _ => 0) (fun _ => 0) 0 0) H := hP
  replace hD : va_D A ((((([(h0, .inr (6, [.ref (uI 0), .ref (uL 0), .ref qf, .int 0, .ref (uS 0), .ref (uB 0), .null, .null, .null]))] ++ wI k uI (fun _ => 0) (fun _ => 0) (fun _ => 0) (fun _ => 0) (fun _ => 0) (fun _ _ => 0) (fun _ => 0) (fun _ => 0) (fun _ _ => 0)) ++ wL k uL (fun _ => 0) 0 0) ++ [(qf, .inl (k 3, 8, .inr (.inr (.inr (.inr (fun _ => none))))))]) ++ wF k uS (fun _ => 0) (fun _ => 0) (fun _ => 0) (fun _ => 0) (fun _ => 0) (fun _ => 0) (fun _ => 0) 0 0) ++ wB k uB (fun _ => 0) (fun _ => 0) 0 0) := hD
  refine lv_aload_n hx hb dX6_init_62 rfl (lv_at hl 0 rfl) ?_
  refine va_new (ci := 2) (fs := [.null, .null, .int 0]) (C := RX2) (T := TX2) (N := 3) hx hb hts iX2 tyX2 tyX2_ok hown (hts (.classLink RX6 45 RX2) (by decide +kernel)) (hts (.instantiable RX2 3) (by decide +kernel)) (hts (.initialized RX2) (by decide +kernel)) hK hP hD hS hA rfl (fun j hj => by rcases (show j = 0 ∨ j = 1 ∨ j = 2 by omega) with rfl | rfl | rfl <;> rfl) (Nat.le_of_ble_eq_true rfl) (Nat.le_of_ble_eq_true rfl) dX6_init_63 (fun xuV H hP hD hS => ?_)
  refine W.widen (k := 37) (n := 666) (Nat.le_of_ble_eq_true rfl) (Nat.le_of_ble_eq_true rfl) ?_
  refine lv_dup hx hb dX6_init_66 rfl ?_
  have hPc := vs_r hP
  have hDc := vd_r hD
  have hFc := vs_free hDc hS hA
  refine xc_n (va_runI (As := []) (rest := [.ref xuV, .ref h0]) ⟨hx, hb, hml, hown, hts⟩ (met_X2_init l D k xuV H.size) (cwI 0 hts gX6_init_X2_init rfl rfl rfl (hts (.initialized RX2) (by decide +kernel)) (hts (.methodLink RX6 47 yX2_init) (by decide +kernel)) (hts (.instanceMethod yX2_init) (by decide +kernel)) rfl (by decide +kernel) ⟨Nat.le_of_ble_eq_true rfl, Nat.le_of_ble_eq_true rfl⟩) ⟨pw_blind, pw_start hPc hK hDc⟩ rfl rfl hl.1 rfl (lv_room (Nat.le_of_ble_eq_true rfl)) dX6_init_67 ⟨Nat.le_of_ble_eq_true rfl, Nat.le_of_ble_eq_true rfl⟩) hS hFc (fun uV H1 locs huV hP1 hD1 hk1 hS => ?_)
  obtain ⟨hP9, hD9⟩ := vs_joinR hP hD hFc hk1 hP1 hD1
  clear hP1 hD1 hk1 hFc hPc hDc hP hD
  subst huV
  have hP := hP9
  have hD := hD9
  clear hP9 hD9
  generalize H1 = H at hP hS ⊢
  refine W.widen (k := 39) (n := 690) (Nat.le_of_ble_eq_true rfl) (Nat.le_of_ble_eq_true rfl) ?_
  replace hP : va_P D vwCl (((((([(h0, .inr (6, [.ref (uI 0), .ref (uL 0), .ref qf, .int 0, .ref (uS 0), .ref (uB 0), .null, .null, .null]))] ++ wI k uI (fun _ => 0) (fun _ => 0) (fun _ => 0) (fun _ => 0) (fun _ => 0) (fun _ _ => 0) (fun _ => 0) (fun _ => 0) (fun _ _ => 0)) ++ wL k uL (fun _ => 0) 0 0) ++ [(qf, .inl (k 3, 8, .inr (.inr (.inr (.inr (fun _ => none))))))]) ++ wF k uS (fun _ => 0) (fun _ => 0) (fun _ => 0) (fun _ => 0) (fun _ => 0) (fun _ => 0) (fun _ => 0) 0 0) ++ wB k uB (fun _ => 0) (fun _ => 0) 0 0) ++ wV k uV (upd (fun _ => 0) 0 1) (upd (fun _ => 0) 0 200) 1) H := hP
  replace hD : va_D A (((((([(h0, .inr (6, [.ref (uI 0), .ref (uL 0), .ref qf, .int 0, .ref (uS 0), .ref (uB 0), .null, .null, .null]))] ++ wI k uI (fun _ => 0) (fun _ => 0) (fun _ => 0) (fun _ => 0) (fun _ => 0) (fun _ _ => 0) (fun _ => 0) (fun _ => 0) (fun _ _ => 0)) ++ wL k uL (fun _ => 0) 0 0) ++ [(qf, .inl (k 3, 8, .inr (.inr (.inr (.inr (fun _ => none))))))]) ++ wF k uS (fun _ => 0) (fun _ => 0) (fun _ => 0) (fun _ => 0) (fun _ => 0) (fun _ => 0) (fun _ => 0) 0 0) ++ wB k uB (fun _ => 0) (fun _ => 0) 0 0) ++ wV k uV (upd (fun _ => 0) 0 1) (upd (fun _ => 0) 0 200) 1) := hD
  refine va_putF (D := D) (ci := 6) (v := .ref (uV 0)) (ty := .object RX2) (C := RX6) (T := TX6) (N := 9) hx hb hts iX6 tyX6 tyX6_ok nmX6 hown hK hP hD hS 0 rfl rfl 6 (by decide) f48 (fun _ h9 => h9) rfl hin rfl (by decide +kernel) rfl rfl (Nat.le_of_ble_eq_true rfl) dX6_init_70 (fun H locs hP hD hS => ?_)
  replace hP : va_P D vwCl (((((([(h0, .inr (6, [.ref (uI 0), .ref (uL 0), .ref qf, .int 0, .ref (uS 0), .ref (uB 0), .ref (uV 0), .null, .null]))] ++ wI k uI (fun _ => 0) (fun _ => 0) (fun _ => 0) (fun _ => 0) (fun _ => 0) (fun _ _ => 0) (fun _ => 0) (fun _ => 0) (fun _ _ => 0)) ++ wL k uL (fun _ => 0) 0 0) ++ [(qf, .inl (k 3, 8, .inr (.inr (.inr (.inr (fun _ => none))))))]) ++ wF k uS (fun _ => 0) (fun _ => 0) (fun _ => 0) (fun _ => 0) (fun _ => 0) (fun _ => 0) (fun _ => 0) 0 0) ++ wB k uB (fun _ => 0) (fun _ => 0) 0 0) ++ wV k uV (upd (fun _ => 0) 0 1) (upd (fun _ => 0) 0 200) 1) H := hP
  replace hD : va_D A (((((([(h0, .inr (6, [.ref (uI 0), .ref (uL 0), .ref qf, .int 0, .ref (uS 0), .ref (uB 0), .ref (uV 0), .null, .null]))] ++ wI k uI (fun _ => 0) (fun _ => 0) (fun _ => 0) (fun _ => 0) (fun _ => 0) (fun _ _ => 0) (fun _ => 0) (fun _ => 0) (fun _ _ => 0)) ++ wL k uL (fun _ => 0) 0 0) ++ [(qf, .inl (k 3, 8, .inr (.inr (.inr (.inr (fun _ => none))))))]) ++ wF k uS (fun _ => 0) (fun _ => 0) (fun _ => 0) (fun _ => 0) (fun _ => 0) (fun _ => 0) (fun _ => 0) 0 0) ++ wB k uB (fun _ => 0) (fun _ => 0) 0 0) ++ wV k uV (upd (fun _ => 0) 0 1) (upd (fun _ => 0) 0 200) 1) := hD
  refine lv_aload_n hx hb dX6_init_73 rfl (lv_at hl 0 rfl) ?_
  refine va_new (ci := 1) (fs := [.int 0]) (C := RX1) (T := TX1) (N := 1) hx hb hts iX1 tyX1 tyX1_ok hown (hts (.classLink RX6 52 RX1) (by decide +kernel)) (hts (.instantiable RX1 1) (by decide +kernel)) (hts (.initialized RX1) (by decide +kernel)) hK hP hD hS hA rfl (fun j hj => by rcases (show j = 0 by omega) with rfl; rfl) (Nat.le_of_ble_eq_true rfl) (Nat.le_of_ble_eq_true rfl) dX6_init_74 (fun xuC H hP hD hS => ?_)
  refine W.widen (k := 40) (n := 691) (Nat.le_of_ble_eq_true rfl) (Nat.le_of_ble_eq_true rfl) ?_
  refine lv_dup hx hb dX6_init_77 rfl ?_
  have hPc := vs_r hP
  have hDc := vd_r hD
  have hFc := vs_free hDc hS hA
  refine xc_n (va_runIN (As := []) (rest := [.ref xuC, .ref h0]) ⟨hx, hb, hml, hown, hts⟩ (met_X1_init l D k xuC H.size) (⟨va_cnB 0 hts gX6_init_X1_init_n54 rfl rfl rfl hNW.2.2.2.2.1 (hts (.initialized RX1) (by decide +kernel)) (by decide +kernel) ⟨Nat.le_of_ble_eq_true rfl, Nat.le_of_ble_eq_true rfl⟩, rfl, hts (.instanceMethod yX1_init) (by decide +kernel)⟩) ⟨pw_blind, pw_start hPc hK hDc⟩ rfl rfl hl.1 rfl (lv_room (Nat.le_of_ble_eq_true rfl)) dX6_init_78 ⟨Nat.le_of_ble_eq_true rfl, Nat.le_of_ble_eq_true rfl⟩) hS hFc (fun uC H1 locs huC hP1 hD1 hk1 hS => ?_)
  obtain ⟨hP9, hD9⟩ := vs_joinR hP hD hFc hk1 hP1 hD1
  clear hP1 hD1 hk1 hFc hPc hDc hP hD
  subst huC
  have hP := hP9
  have hD := hD9
  clear hP9 hD9
  generalize H1 = H at hP hS ⊢
  refine W.widen (k := 40) (n := 691) (Nat.le_of_ble_eq_true rfl) (Nat.le_of_ble_eq_true rfl) ?_
  replace hP : va_P D vwCl ((((((([(h0, .inr (6, [.ref (uI 0), .ref (uL 0), .ref qf, .int 0, .ref (uS 0), .ref (uB 0), .ref (uV 0), .null, .null]))] ++ wI k uI (fun _ => 0) (fun _ => 0) (fun _ => 0) (fun _ => 0) (fun _ => 0) (fun _ _ => 0) (fun _ => 0) (fun _ => 0) (fun _ _ => 0)) ++ wL k uL (fun _ => 0) 0 0) ++ [(qf, .inl (k 3, 8, .inr (.inr (.inr (.inr (fun _ => none))))))]) ++ wF k uS (fun _ => 0) (fun _ => 0) (fun _ => 0) (fun _ => 0) (fun _ => 0) (fun _ => 0) (fun _ => 0) 0 0) ++ wB k uB (fun _ => 0) (fun _ => 0) 0 0) ++ wV k uV (upd (fun _ => 0) 0 1) (upd (fun _ => 0) 0 200) 1) ++ wC k uC 1) H := hP
  replace hD : va_D A ((((((([(h0, .inr (6, [.ref (uI 0), .ref (uL 0), .ref qf, .int 0, .ref (uS 0), .ref (uB 0), .ref (uV 0), .null, .null]))] ++ wI k uI (fun _ => 0) (fun _ => 0) (fun _ => 0) (fun _ => 0) (fun _ => 0) (fun _ _ => 0) (fun _ => 0) (fun _ => 0) (fun _ _ => 0)) ++ wL k uL (fun _ => 0) 0 0) ++ [(qf, .inl (k 3, 8, .inr (.inr (.inr (.inr (fun _ => none))))))]) ++ wF k uS (fun _ => 0) (fun _ => 0) (fun _ => 0) (fun _ => 0) (fun _ => 0) (fun _ => 0) (fun _ => 0) 0 0) ++ wB k uB (fun _ => 0) (fun _ => 0) 0 0) ++ wV k uV (upd (fun _ => 0) 0 1) (upd (fun _ => 0) 0 200) 1) ++ wC k uC 1) := hD
  refine va_putF (D := D) (ci := 6) (v := .ref (uC 0)) (ty := .object RX1) (C := RX6) (T := TX6) (N := 9) hx hb hts iX6 tyX6 tyX6_ok nmX6 hown hK hP hD hS 0 rfl rfl 7 (by decide) f55 (fun _ h9 => h9) rfl hin rfl (by decide +kernel) rfl rfl (Nat.le_of_ble_eq_true rfl) dX6_init_81 (fun H locs hP hD hS => ?_)
  replace hP : va_P D vwCl ((((((([(h0, .inr (6, [.ref (uI 0), .ref (uL 0), .ref qf, .int 0, .ref (uS 0), .ref (uB 0), .ref (uV 0), .ref (uC 0), .null]))] ++ wI k uI (fun _ => 0) (fun _ => 0) (fun _ => 0) (fun _ => 0) (fun _ => 0) (fun _ _ => 0) (fun _ => 0) (fun _ => 0) (fun _ _ => 0)) ++ wL k uL (fun _ => 0) 0 0) ++ [(qf, .inl (k 3, 8, .inr (.inr (.inr (.inr (fun _ => none))))))]) ++ wF k uS (fun _ => 0) (fun _ => 0) (fun _ => 0) (fun _ => 0) (fun _ => 0) (fun _ => 0) (fun _ => 0) 0 0) ++ wB k uB (fun _ => 0) (fun _ => 0) 0 0) ++ wV k uV (upd (fun _ => 0) 0 1) (upd (fun _ => 0) 0 200) 1) ++ wC k uC 1) H := hP
  replace hD : va_D A ((((((([(h0, .inr (6, [.ref (uI 0), .ref (uL 0), .ref qf, .int 0, .ref (uS 0), .ref (uB 0), .ref (uV 0), .ref (uC 0), .null]))] ++ wI k uI (fun _ => 0) (fun _ => 0) (fun _ => 0) (fun _ => 0) (fun _ => 0) (fun _ _ => 0) (fun _ => 0) (fun _ => 0) (fun _ _ => 0)) ++ wL k uL (fun _ => 0) 0 0) ++ [(qf, .inl (k 3, 8, .inr (.inr (.inr (.inr (fun _ => none))))))]) ++ wF k uS (fun _ => 0) (fun _ => 0) (fun _ => 0) (fun _ => 0) (fun _ => 0) (fun _ => 0) (fun _ => 0) 0 0) ++ wB k uB (fun _ => 0) (fun _ => 0) 0 0) ++ wV k uV (upd (fun _ => 0) 0 1) (upd (fun _ => 0) 0 200) 1) ++ wC k uC 1) := hD
  refine lv_aload_n hx hb dX6_init_84 rfl (lv_at hl 0 rfl) ?_
  refine lv_bipush (v := 6) hx hb dX6_init_85 (by decide) ?_
  refine va_newaQ (atype := .int) (ty := .int) (t0 := 0) (a0 := (6, .inl (fun _ => 0))) hx hb (hts (.arrayClass .int) (by decide +kernel)) rfl hK rfl hP hD hS hA (fun _ => rfl) (by decide) (by decide) (Nat.le_of_ble_eq_true rfl) (Nat.le_of_ble_eq_true rfl) (Nat.le_of_ble_eq_true rfl) dX6_init_87 (fun qd H hP hD hS => ?_)
  refine W.widen (k := 41) (n := 697) (Nat.le_of_ble_eq_true rfl) (Nat.le_of_ble_eq_true rfl) ?_
  replace hP : va_P D vwCl (((((((([(h0, .inr (6, [.ref (uI 0), .ref (uL 0), .ref qf, .int 0, .ref (uS 0), .ref (uB 0), .ref (uV 0), .ref (uC 0), .null]))] ++ wI k uI (fun _ => 0) (fun _ => 0) (fun _ => 0) (fun _ => 0) (fun _ => 0) (fun _ _ => 0) (fun _ => 0) (fun _ => 0) (fun _ _ => 0)) ++ wL k uL (fun _ => 0) 0 0) ++ [(qf, .inl (k 3, 8, .inr (.inr (.inr (.inr (fun _ => none))))))]) ++ wF k uS (fun _ => 0) (fun _ => 0) (fun _ => 0) (fun _ => 0) (fun _ => 0) (fun _ => 0) (fun _ => 0) 0 0) ++ wB k uB (fun _ => 0) (fun _ => 0) 0 0) ++ wV k uV (upd (fun _ => 0) 0 1) (upd (fun _ => 0) 0 200) 1) ++ wC k uC 1) ++ [(qd, .inl (k 0, 6, .inl (fun _ => 0)))]) H := hP
  replace hD : va_D A (((((((([(h0, .inr (6, [.ref (uI 0), .ref (uL 0), .ref qf, .int 0, .ref (uS 0), .ref (uB 0), .ref (uV 0), .ref (uC 0), .null]))] ++ wI k uI (fun _ => 0) (fun _ => 0) (fun _ => 0) (fun _ => 0) (fun _ => 0) (fun _ _ => 0) (fun _ => 0) (fun _ => 0) (fun _ _ => 0)) ++ wL k uL (fun _ => 0) 0 0) ++ [(qf, .inl (k 3, 8, .inr (.inr (.inr (.inr (fun _ => none))))))]) ++ wF k uS (fun _ => 0) (fun _ => 0) (fun _ => 0) (fun _ => 0) (fun _ => 0) (fun _ => 0) (fun _ => 0) 0 0) ++ wB k uB (fun _ => 0) (fun _ => 0) 0 0) ++ wV k uV (upd (fun _ => 0) 0 1) (upd (fun _ => 0) 0 200) 1) ++ wC k uC 1) ++ [(qd, .inl (k 0, 6, .inl (fun _ => 0)))]) := hD
  refine va_putF (D := D) (ci := 6) (v := .ref qd) (ty := .array .int) (C := RX6) (T := TX6) (N := 9) hx hb hts iX6 tyX6 tyX6_ok nmX6 hown hK hP hD hS 0 rfl rfl 8 (by decide) f59 (fun _ h9 => h9) rfl hin rfl (by decide +kernel) rfl rfl (Nat.le_of_ble_eq_true rfl) dX6_init_89 (fun H locs hP hD hS => ?_)
  replace hP : va_P D vwCl (((((((([(h0, .inr (6, [.ref (uI 0), .ref (uL 0), .ref qf, .int 0, .ref (uS 0), .ref (uB 0), .ref (uV 0), .ref (uC 0), .ref qd]))] ++ wI k uI (fun _ => 0) (fun _ => 0) (fun _ => 0) (fun _ => 0) (fun _ => 0) (fun _ _ => 0) (fun _ => 0) (fun _ => 0) (fun _ _ => 0)) ++ wL k uL (fun _ => 0) 0 0) ++ [(qf, .inl (k 3, 8, .inr (.inr (.inr (.inr (fun _ => none))))))]) ++ wF k uS (fun _ => 0) (fun _ => 0) (fun _ => 0) (fun _ => 0) (fun _ => 0) (fun _ => 0) (fun _ => 0) 0 0) ++ wB k uB (fun _ => 0) (fun _ => 0) 0 0) ++ wV k uV (upd (fun _ => 0) 0 1) (upd (fun _ => 0) 0 200) 1) ++ wC k uC 1) ++ [(qd, .inl (k 0, 6, .inl (fun _ => 0)))]) H := hP
  replace hD : va_D A (((((((([(h0, .inr (6, [.ref (uI 0), .ref (uL 0), .ref qf, .int 0, .ref (uS 0), .ref (uB 0), .ref (uV 0), .ref (uC 0), .ref qd]))] ++ wI k uI (fun _ => 0) (fun _ => 0) (fun _ => 0) (fun _ => 0) (fun _ => 0) (fun _ _ => 0) (fun _ => 0) (fun _ => 0) (fun _ _ => 0)) ++ wL k uL (fun _ => 0) 0 0) ++ [(qf, .inl (k 3, 8, .inr (.inr (.inr (.inr (fun _ => none))))))]) ++ wF k uS (fun _ => 0) (fun _ => 0) (fun _ => 0) (fun _ => 0) (fun _ => 0) (fun _ => 0) (fun _ => 0) 0 0) ++ wB k uB (fun _ => 0) (fun _ => 0) 0 0) ++ wV k uV (upd (fun _ => 0) 0 1) (upd (fun _ => 0) 0 200) 1) ++ wC k uC 1) ++ [(qd, .inl (k 0, 6, .inl (fun _ => 0)))]) := hD
  have pm : ((wU k (fun i => [h0, qf, qd].getD i 0) (uI 0) (uL 0) (uS 0) (uB 0) (uV 0) (uC 0) (fun _ => none) (fun _ => 0) 0) ++ (wI k uI (fun _ => 0) (fun _ => 0) (fun _ => 0) (fun _ => 0) (fun _ => 0) (fun _ _ => 0) (fun _ => 0) (fun _ => 0) (fun _ _ => 0)) ++ (wL k uL (fun _ => 0) 0 0) ++ (wF k uS (fun _ => 0) (fun _ => 0) (fun _ => 0) (fun _ => 0) (fun _ => 0) (fun _ => 0) (fun _ => 0) 0 0) ++ (wB k uB (fun _ => 0) (fun _ => 0) 0 0) ++ (wV k uV (upd (fun _ => 0) 0 1) (upd (fun _ => 0) 0 200) 1) ++ (wC k uC 1)).Perm (((((((([(h0, .inr (6, [.ref (uI 0), .ref (uL 0), .ref qf, .int 0, .ref (uS 0), .ref (uB 0), .ref (uV 0), .ref (uC 0), .ref qd]))] ++ wI k uI (fun _ => 0) (fun _ => 0) (fun _ => 0) (fun _ => 0) (fun _ => 0) (fun _ _ => 0) (fun _ => 0) (fun _ => 0) (fun _ _ => 0)) ++ wL k uL (fun _ => 0) 0 0) ++ [(qf, .inl (k 3, 8, .inr (.inr (.inr (.inr (fun _ => none))))))]) ++ wF k uS (fun _ => 0) (fun _ => 0) (fun _ => 0) (fun _ => 0) (fun _ => 0) (fun _ => 0) (fun _ => 0) 0 0) ++ wB k uB (fun _ => 0) (fun _ => 0) 0 0) ++ wV k uV (upd (fun _ => 0) 0 1) (upd (fun _ => 0) 0 200) 1) ++ wC k uC 1) ++ [(qd, .inl (k 0, 6, .inl (fun _ => 0)))]) := pmc (fun a => by
    have e : ((wU k (fun i => [h0, qf, qd].getD i 0) (uI 0) (uL 0) (uS 0) (uB 0) (uV 0) (uC 0) (fun _ => none) (fun _ => 0) 0) : va_W) = [(h0, .inr (6, [.ref (uI 0), .ref (uL 0), .ref qf, .int 0, .ref (uS 0), .ref (uB 0), .ref (uV 0), .ref (uC 0), .ref qd]))] ++ ([(qf, .inl (k 3, 8, .inr (.inr (.inr (.inr (fun _ => none))))))] ++ [(qd, .inl (k 0, 6, .inl (fun _ => 0)))]) := rfl
    have e2 := congrArg (List.count a) e
    simp only [List.count_append] at e2 ⊢
    omega)
  have hPf := vs_perm hP pm
  have hDf := vd_perm hD pm
  exact W.vret hx hb hr (fun t ht hW => ⟨⟨(fun i => [(fun i => [h0, qf, qd].getD i 0), uI, uL, uS, uB, uV, uC].getD i uI), rfl, rfl, by rw [ht]; exact hPf, va_K.moved hW.alike hK, hDf⟩, hS.F ht⟩) hS.2.2 dX6_init_92
