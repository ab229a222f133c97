def fX0_shareOf (v1 : Int32) (Bcontributions : Nat → Int64) (Bvariance : Int64) : Option (Int64) := (if (lg_cmp Bvariance 0) = 0 then some (0) else gi v1 6 (gzL Bvariance (some ((100 * (Bcontributions v1.toNatClampNeg)) / Bvariance))))
abbrev rmX0_shareOf : Room := { frames := 0, cells := 0, slots := 0, locals := 0 }
set_option maxHeartbeats 4000000 in
set_option maxRecDepth 100000 in
theorem met_X0_shareOf (l : Launch) (D : va_G) (k : Nat → ClassId)  (aB : Nat → Nat) (sz : Nat) (Bslopes : Nat → Int64) (Bcontributions : Nat → Int64) (Bvariance : Int64) (BdegreesSum : Int64) (v1 : Int32) (r : Int64) (h : fX0_shareOf v1 Bcontributions Bvariance = some r) : Met l yX0_shareOf wsX0_shareOf rmX0_shareOf (va_Pc [.ref (aB 0), .int v1] (PreW D k (wB k aB Bslopes Bcontributions Bvariance BdegreesSum) sz)) (va_Ql (fun r9 (_ : Unit) => r9 = r) (fun _ t => PostW D k (va_A (wB k aB Bslopes Bcontributions Bvariance BdegreesSum) sz) (wB k aB Bslopes Bcontributions Bvariance BdegreesSum) t) (va_A (wB k aB Bslopes Bcontributions Bvariance BdegreesSum) sz)) 0 0 (va_A (wB k aB Bslopes Bcontributions Bvariance BdegreesSum) sz) := by
  refine Met.ofW (cc := cX0_shareOf) (maxL := 2) (ret := (some .long)) (by decide) rfl ?_
  intro p e s m args below meth c s₁ B hml hv
  obtain ⟨hav, hsz, hP, hK, hD0⟩ := hv
  have hx := B.exec
  have hb := B.bytes
  have hr := B.returns
  have hts := atoms_spec (ws := wsX0_shareOf) B.pre
  have hown : s.vm.findClass RX0 = some m.cls := findClass_of_methodNamed B.named
  have hlocks := B.notSynchronized
  subst hsz
  have hD := hD0.self (sz := s.heap.size)
  clear hD0
  generalize hAe : va_A (wB k aB Bslopes Bcontributions Bvariance BdegreesSum) s.heap.size = A at hD ⊢
  have hA : ∀ q : Nat, s.heap.size ≤ q → A q := fun q h => by rw [← hAe]; exact Or.inr h
  have hS : va_S A s.heap s.heap [] := va_S.rf
  have hl := lv_entry ([.ref (aB 0), .int v1]) (n := 2) (Nat.le_of_ble_eq_true rfl)
  rw [show entryFrame m args 2 = entryFrame m ([.ref (aB 0), .int v1] : List Value).toArray 2 from by rw [hav], lg_entry_eq]
  generalize (lg_sl ([.ref (aB 0), .int v1]) ++ List.replicate (2 - (lg_sl ([.ref (aB 0), .int v1])).length) Slot.unset).toArray = ls at hl ⊢
  replace hl : lv_has ls 2 [(0, .ref (aB 0)), (1, .int v1)] := hl
  have f15 := hts (.fieldLink RX0 15 "UncertainBook$Budget" "contributions" "[J") (by decide +kernel)
  have f18 := hts (.fieldLink RX0 18 "UncertainBook$Budget" "variance" "J") (by decide +kernel)
  have kc58 := hts (.constantLong RX0 58 (100)) (by decide +kernel)
  have iX0 : ∀ w ∈ u_ws RX0 TX0 4, w ∈ wsX0_shareOf := by decide +kernel
  refine w_q (fun Q hQ => ?_)
  unfold fX0_shareOf at h
  show W p l e rmX0_shareOf s m args below meth c s.heap [] 0 0 Q (F0 m 0 ls [])
  suffices main : ∀ (H : Heap) (locs : List Loc) (ls : Array Slot), va_P D vwCl (wB k aB Bslopes Bcontributions Bvariance BdegreesSum) H → va_D A (wB k aB Bslopes Bcontributions Bvariance BdegreesSum) → va_S A s.heap H locs → lv_has ls 2 [(0, .ref (aB 0)), (1, .int v1)] → W p l e rmX0_shareOf s m args below meth c H locs 0 0 Q (F0 m 0 ls []) from main _ _ _ hP hD hS hl
  clear hP hD hS hl ls hAe
  intro H locs ls hP hD hS hl
  refine lv_aload_n hx hb dX0_shareOf_0 rfl (lv_at hl 0 rfl) ?_
  refine va_get (D := D) (ci := 0) (v := .long Bvariance) (C := RX0) (T := TX0) (N := 4) hx hb hts iX0 hown hK hP 0 rfl rfl 2 (by decide) f18 (fun _ h9 => h9) rfl dX0_shareOf_1 ?_
  refine lv_lconst (v := 0) hx hb dX0_shareOf_4 (by decide) ?_
  refine W.lcmp hx hb dX0_shareOf_5 ?_
  refine lv_if_ne (tgt := 13) hx hb dX0_shareOf_6 (by decide) (fun c1 => ?_) (fun c1 => ?_)
  · replace h := sf_f c1 h
    refine lv_ldc2 (v := 100) hx hb hown kc58 dX0_shareOf_13 ?_
    refine lv_aload_n hx hb dX0_shareOf_16 rfl (lv_at hl 0 rfl) ?_
    refine va_get (D := D) (ci := 0) (v := .ref (aB 2)) (C := RX0) (T := TX0) (N := 4) hx hb hts iX0 hown hK hP 0 rfl rfl 1 (by decide) f15 (fun _ h9 => h9) rfl dX0_shareOf_17 ?_
    refine lv_iload_n hx hb dX0_shareOf_20 rfl (lv_at hl 1 rfl) ?_
    obtain ⟨hi2, h⟩ := gi_inv h
    refine va_lald hx hb hK hP 2 1 rfl rfl hi2 dX0_shareOf_21 ?_
    refine lv_lmul hx hb dX0_shareOf_22 ?_
    refine lv_aload_n hx hb dX0_shareOf_23 rfl (lv_at hl 0 rfl) ?_
    refine va_get (D := D) (ci := 0) (v := .long Bvariance) (C := RX0) (T := TX0) (N := 4) hx hb hts iX0 hown hK hP 0 rfl rfl 2 (by decide) f18 (fun _ h9 => h9) rfl dX0_shareOf_24 ?_
    obtain ⟨hz3, h⟩ := gzL_inv h
    refine lv_ldiv hx hb dX0_shareOf_27 hz3 ?_
    have hP9 := hP
    have hD9 := hD
    have hS9 := hS
    subst hQ
    cases h
    exact W.lret hx hb hr (fun t ht hW => ⟨⟨_, (), rfl, rfl, by rw [ht]; exact hP9, va_K.moved hW.alike hK, hD9⟩, hS9.F ht⟩) hS9.2.2 dX0_shareOf_28
  · replace h := sf_t c1 h
    refine lv_lconst (v := 0) hx hb dX0_shareOf_9 (by decide) ?_
    refine lv_goto (tgt := 28) hx hb dX0_shareOf_10 (by decide) ?_
    have hP9 := hP
    have hD9 := hD
    have hS9 := hS
    subst hQ
    cases h
    exact W.lret hx hb hr (fun t ht hW => ⟨⟨_, (), rfl, rfl, by rw [ht]; exact hP9, va_K.moved hW.alike hK, hD9⟩, hS9.F ht⟩) hS9.2.2 dX0_shareOf_28
def LX0_reckonDegreesSum_7 (Bcontributions : Nat → Int64) (Bvariance : Int64) (Icounts : Nat → Int32) (E52 : Int64 → Option (Int64)) : Nat → Int32 → Int64 → Option (Int64)
  | 0, _, _ => none
  | fuel + 1, v2, BdegreesSum => (if 6 ≤ v2 then E52 BdegreesSum else bnd1 (fX4_degreesOf v2 Icounts) (fun r2 => (if r2 ≤ 0 then LX0_reckonDegreesSum_7 Bcontributions Bvariance Icounts E52 fuel (v2 + 1) BdegreesSum else bnd1 (fX0_shareOf v2 Bcontributions Bvariance) (fun r4 => bnd1 (fX0_shareOf v2 Bcontributions Bvariance) (fun r5 => gzL r2.toInt64 (LX0_reckonDegreesSum_7 Bcontributions Bvariance Icounts E52 fuel (v2 + 1) (BdegreesSum + ((r4 * r5) / r2.toInt64))))))))
def fX0_reckonDegreesSum (Bcontributions : Nat → Int64) (Bvariance : Int64) (BdegreesSum : Int64) (Icounts : Nat → Int32) : Option (Int64) := LX0_reckonDegreesSum_7 Bcontributions Bvariance Icounts (fun (BdegreesSum : Int64) => some (BdegreesSum)) 1000 0 0
abbrev rmX0_reckonDegreesSum : Room := { frames := 1, cells := 0, slots := 0, locals := 21 }
set_option maxHeartbeats 4000000 in
set_option maxRecDepth 100000 in
theorem met_X0_reckonDegreesSum (l : Launch) (D : va_G) (k : Nat → ClassId)  (aB : Nat → Nat) (aI : Nat → Nat) (sz : Nat) (Bslopes : Nat → Int64) (Bcontributions : Nat → Int64) (Bvariance : Int64) (BdegreesSum : Int64) (Iestimates : Nat → Int32) (Ivariances : Nat → Int32) (Isorts : Nat → Int32) (Iwidths : Nat → Int32) (Icounts : Nat → Int32) (Ireadings : Nat → Nat → Int32) (Ifirsts : Nat → Int32) (Iseconds : Nat → Int32) (Icovariances : Nat → Nat → Int32)  (RBdegreesSum : Int64) (h : fX0_reckonDegreesSum Bcontributions Bvariance BdegreesSum Icounts = some RBdegreesSum) : Met l yX0_reckonDegreesSum wsX0_reckonDegreesSum rmX0_reckonDegreesSum (va_Pc [.ref (aB 0), .ref (aI 0)] (PreW D k ((wB k aB Bslopes Bcontributions Bvariance BdegreesSum) ++ (wI k aI Iestimates Ivariances Isorts Iwidths Icounts Ireadings Ifirsts Iseconds Icovariances)) sz)) (va_Qv (fun _ : Unit => True) (fun _ t => PostW D k (va_A ((wB k aB Bslopes Bcontributions Bvariance BdegreesSum) ++ (wI k aI Iestimates Ivariances Isorts Iwidths Icounts Ireadings Ifirsts Iseconds Icovariances)) sz) ((wB k aB Bslopes Bcontributions Bvariance RBdegreesSum) ++ (wI k aI Iestimates Ivariances Isorts Iwidths Icounts Ireadings Ifirsts Iseconds Icovariances)) t) (va_A ((wB k aB Bslopes Bcontributions Bvariance BdegreesSum) ++ (wI k aI Iestimates Ivariances Isorts Iwidths Icounts Ireadings Ifirsts Iseconds Icovariances)) sz)) 0 0 (va_A ((wB k aB Bslopes Bcontributions Bvariance BdegreesSum) ++ (wI k aI Iestimates Ivariances Isorts Iwidths Icounts Ireadings Ifirsts Iseconds Icovariances)) sz) := by
  refine Met.ofW (cc := cX0_reckonDegreesSum) (maxL := 4) (ret := none) (by decide) rfl ?_
  intro p e s m args below meth c s₁ B hml hv
  obtain ⟨hav, hsz, hP, hK, hD0⟩ := hv
  have hx := B.exec
  have hb := B.bytes
  have hr := B.returns
  have hts := atoms_spec (ws := wsX0_reckonDegreesSum) B.pre
  have hown : s.vm.findClass RX0 = some m.cls := findClass_of_methodNamed B.named
  have hlocks := B.notSynchronized
  subst hsz
  have hD := hD0.self (sz := s.heap.size)
  clear hD0
  generalize hAe : va_A ((wB k aB Bslopes Bcontributions Bvariance BdegreesSum) ++ (wI k aI Iestimates Ivariances Isorts Iwidths Icounts Ireadings Ifirsts Iseconds Icovariances)) s.heap.size = A at hD ⊢
  have hA : ∀ q : Nat, s.heap.size ≤ q → A q := fun q h => by rw [← hAe]; exact Or.inr h
  have hS : va_S A s.heap s.heap [] := va_S.rf
  have hl := lv_entry ([.ref (aB 0), .ref (aI 0)]) (n := 4) (Nat.le_of_ble_eq_true rfl)
  rw [show entryFrame m args 4 = entryFrame m ([.ref (aB 0), .ref (aI 0)] : List Value).toArray 4 from by rw [hav], lg_entry_eq]
  generalize (lg_sl ([.ref (aB 0), .ref (aI 0)]) ++ List.replicate (4 - (lg_sl ([.ref (aB 0), .ref (aI 0)])).length) Slot.unset).toArray = ls at hl ⊢
  replace hl : lv_has ls 4 [(0, .ref (aB 0)), (1, .ref (aI 0))] := hl
  have f22 := hts (.fieldLink RX0 22 "UncertainBook$Budget" "degreesSum" "J") (by decide +kernel)
  have iX0 : ∀ w ∈ u_ws RX0 TX0 4, w ∈ wsX0_reckonDegreesSum := by decide +kernel
  refine w_q (fun Q hQ => ?_)
  unfold fX0_reckonDegreesSum at h
  show W p l e rmX0_reckonDegreesSum s m args below meth c s.heap [] 0 0 Q (F0 m 0 ls [])
  have LH_7 : ∀ (E52 : Int64 → Option (Int64)) (hE52 : ∀ (BdegreesSum : Int64), E52 BdegreesSum = some RBdegreesSum → ∀ (H : Heap) (locs : List Loc) (ls : Array Slot), va_P D vwCl ((wB k aB Bslopes Bcontributions Bvariance BdegreesSum) ++ (wI k aI Iestimates Ivariances Isorts Iwidths Icounts Ireadings Ifirsts Iseconds Icovariances)) H → va_D A ((wB k aB Bslopes Bcontributions Bvariance BdegreesSum) ++ (wI k aI Iestimates Ivariances Isorts Iwidths Icounts Ireadings Ifirsts Iseconds Icovariances)) → va_S A s.heap H locs → lv_has ls 4 [] → W p l e rmX0_reckonDegreesSum s m args below meth c H locs 0 0 Q (F0 m 52 ls [])) (n : Nat) (v2 : Int32) (BdegreesSum : Int64), LX0_reckonDegreesSum_7 Bcontributions Bvariance Icounts E52 n v2 BdegreesSum = some RBdegreesSum → ∀ (H : Heap) (locs : List Loc) (ls : Array Slot), va_P D vwCl ((wB k aB Bslopes Bcontributions Bvariance BdegreesSum) ++ (wI k aI Iestimates Ivariances Isorts Iwidths Icounts Ireadings Ifirsts Iseconds Icovariances)) H → va_D A ((wB k aB Bslopes Bcontributions Bvariance BdegreesSum) ++ (wI k aI Iestimates Ivariances Isorts Iwidths Icounts Ireadings Ifirsts Iseconds Icovariances)) → va_S A s.heap H locs → lv_has ls 4 [(0, .ref (aB 0)), (1, .ref (aI 0)), (2, .int v2)] → W p l e rmX0_reckonDegreesSum s m args below meth c H locs 0 0 Q (F0 m 7 ls []) := by
    intro E52 hE52 n
    induction n with
    | zero => intro v2 BdegreesSum h; simp [LX0_reckonDegreesSum_7] at h
    | succ n ih =>
    intro v2 BdegreesSum h H locs ls hP hD hS hl
    rw [LX0_reckonDegreesSum_7] at h
    refine lv_iload_n hx hb dX0_reckonDegreesSum_7 rfl (lv_at hl 2 rfl) ?_
    refine lv_bipush (v := 6) hx hb dX0_reckonDegreesSum_8 (by decide) ?_
    refine lv_icmp_ge (tgt := 52) hx hb dX0_reckonDegreesSum_10 (by decide) (fun c1 => ?_) (fun c1 => ?_)
    · replace h := sf_t c1 h
      exact hE52 _ h _ _ _ hP hD hS (lv_sub hl [] rfl)
    · replace h := sf_f c1 h
      refine lv_aload_n hx hb dX0_reckonDegreesSum_13 rfl (lv_at hl 1 rfl) ?_
      refine lv_iload_n hx hb dX0_reckonDegreesSum_14 rfl (lv_at hl 2 rfl) ?_
      obtain ⟨r2, hc2, h⟩ := bnd1_inv h
      have hPc := hP.sub (ws' := (wI k aI Iestimates Ivariances Isorts Iwidths Icounts Ireadings Ifirsts Iseconds Icovariances)) [3, 4, 5, 6, 7, 8, 9, 10, 11, 12, 13, 14, 15, 16, 17, 18, 19, 20, 21, 22, 23, 24] rfl
      have hDc := hD.sub (ws' := (wI k aI Iestimates Ivariances Isorts Iwidths Icounts Ireadings Ifirsts Iseconds Icovariances)) [3, 4, 5, 6, 7, 8, 9, 10, 11, 12, 13, 14, 15, 16, 17, 18, 19, 20, 21, 22, 23, 24] rfl rfl
      have hFc := va_free (wc := (wI k aI Iestimates Ivariances Isorts Iwidths Icounts Ireadings Ifirsts Iseconds Icovariances)) hD hS hA [3, 4, 5, 6, 7, 8, 9, 10, 11, 12, 13, 14, 15, 16, 17, 18, 19, 20, 21, 22, 23, 24] rfl
      refine xc_i (va_runV (As := [.int v2]) (rest := []) ⟨hx, hb, hml, hown, hts⟩ (met_X4_degreesOf l D k  aI H.size Iestimates Ivariances Isorts Iwidths Icounts Ireadings Ifirsts Iseconds Icovariances v2 r2 hc2) (cwV 1 hts gX0_reckonDegreesSum_X4_degreesOf rfl rfl rfl (by decide +kernel) ⟨Nat.le_of_ble_eq_true rfl, Nat.le_of_ble_eq_true rfl⟩) ⟨pw_blind, va_recv hK hPc (ci := 4) (q0 := 0) rfl rfl, pw_start hPc hK hDc⟩ rfl rfl hl.1 rfl (lv_room (Nat.le_of_ble_eq_true rfl)) dX0_reckonDegreesSum_15 ⟨Nat.zero_le _, Nat.zero_le _⟩) hS hFc (fun H1 locs hP1 hD1 hk1 hS => ?_)
      obtain ⟨hP, hD⟩ := vj (ws' := ((wB k aB Bslopes Bcontributions Bvariance BdegreesSum) ++ (wI k aI Iestimates Ivariances Isorts Iwidths Icounts Ireadings Ifirsts Iseconds Icovariances))) (w1 := (wI k aI Iestimates Ivariances Isorts Iwidths Icounts Ireadings Ifirsts Iseconds Icovariances)) hP hD [3, 4, 5, 6, 7, 8, 9, 10, 11, 12, 13, 14, 15, 16, 17, 18, 19, 20, 21, 22, 23, 24] [0, 1, 2] [0, 1, 2, 3, 4, 5, 6, 7, 8, 9, 10, 11, 12, 13, 14, 15, 16, 17, 18, 19, 20, 21, 22, 23, 24] rfl rfl rfl rfl rfl hk1 hFc hP1 hD1
      clear hP1 hD1 hk1 hFc
      generalize H1 = H at hP hS ⊢
      refine lv_istore_n (lv' := [(3, .int r2), (0, .ref (aB 0)), (1, .ref (aI 0)), (2, .int v2)]) hx hb dX0_reckonDegreesSum_18 rfl hl (by decide) rfl (fun ls hl => ?_)
      refine lv_iload_n hx hb dX0_reckonDegreesSum_19 rfl (lv_at hl 0 rfl) ?_
      refine lv_if_le (tgt := 46) hx hb dX0_reckonDegreesSum_20 (by decide) (fun c3 => ?_) (fun c3 => ?_)
      · replace h := sf_t c3 h
        refine lv_iinc (v := v2 + 1) (lv' := [(2, .int (v2 + 1)), (3, .int r2), (0, .ref (aB 0)), (1, .ref (aI 0))]) hx hb dX0_reckonDegreesSum_46 hl (k := 3) rfl rfl (by decide) rfl (fun ls hl => ?_)
        refine lv_goto (tgt := 7) hx hb dX0_reckonDegreesSum_49 (by decide) ?_
        exact ih _ _ h _ _ _ hP hD hS (lv_sub hl [2, 3, 0] rfl)
      · replace h := sf_f c3 h
        refine lv_aload_n hx hb dX0_reckonDegreesSum_23 rfl (lv_at hl 1 rfl) ?_
        refine lv_dup hx hb dX0_reckonDegreesSum_24 rfl ?_
        refine va_get (D := D) (ci := 0) (v := .long BdegreesSum) (C := RX0) (T := TX0) (N := 4) hx hb hts iX0 hown hK hP 0 rfl rfl 3 (by decide) f22 (fun _ h9 => h9) rfl dX0_reckonDegreesSum_25 ?_
        refine lv_aload_n hx hb dX0_reckonDegreesSum_28 rfl (lv_at hl 1 rfl) ?_
        refine lv_iload_n hx hb dX0_reckonDegreesSum_29 rfl (lv_at hl 3 rfl) ?_
        obtain ⟨r4, hc4, h⟩ := bnd1_inv h
        have hPc := hP.sub (ws' := (wB k aB Bslopes Bcontributions Bvariance BdegreesSum)) [0, 1, 2] rfl
        have hDc := hD.sub (ws' := (wB k aB Bslopes Bcontributions Bvariance BdegreesSum)) [0, 1, 2] rfl rfl
        have hFc := va_free (wc := (wB k aB Bslopes Bcontributions Bvariance BdegreesSum)) hD hS hA [0, 1, 2] rfl
        refine xc_l (va_runV (As := [.int v2]) (rest := [.long BdegreesSum, .ref (aB 0)]) ⟨hx, hb, hml, hown, hts⟩ (met_X0_shareOf l D k  aB H.size Bslopes Bcontributions Bvariance BdegreesSum v2 r4 hc4) (cwV 1 hts gX0_reckonDegreesSum_X0_shareOf rfl rfl rfl (by decide +kernel) ⟨Nat.le_of_ble_eq_true rfl, Nat.le_of_ble_eq_true rfl⟩) ⟨pw_blind, va_recv hK hPc (ci := 0) (q0 := 0) rfl rfl, pw_start hPc hK hDc⟩ rfl rfl hl.1 rfl (lv_room (Nat.le_of_ble_eq_true rfl)) dX0_reckonDegreesSum_30 ⟨Nat.zero_le _, Nat.zero_le _⟩) hS hFc (fun H1 locs hP1 hD1 hk1 hS => ?_)
        obtain ⟨hP, hD⟩ := vj (ws' := ((wB k aB Bslopes Bcontributions Bvariance BdegreesSum) ++ (wI k aI Iestimates Ivariances Isorts Iwidths Icounts Ireadings Ifirsts Iseconds Icovariances))) (w1 := (wB k aB Bslopes Bcontributions Bvariance BdegreesSum)) hP hD [0, 1, 2] [3, 4, 5, 6, 7, 8, 9, 10, 11, 12, 13, 14, 15, 16, 17, 18, 19, 20, 21, 22, 23, 24] [22, 23, 24, 0, 1, 2, 3, 4, 5, 6, 7, 8, 9, 10, 11, 12, 13, 14, 15, 16, 17, 18, 19, 20, 21] rfl rfl rfl rfl rfl hk1 hFc hP1 hD1
        clear hP1 hD1 hk1 hFc
        generalize H1 = H at hP hS ⊢
        refine lv_aload_n hx hb dX0_reckonDegreesSum_33 rfl (lv_at hl 1 rfl) ?_
        refine lv_iload_n hx hb dX0_reckonDegreesSum_34 rfl (lv_at hl 3 rfl) ?_
        obtain ⟨r5, hc5, h⟩ := bnd1_inv h
        have hPc := hP.sub (ws' := (wB k aB Bslopes Bcontributions Bvariance BdegreesSum)) [0, 1, 2] rfl
        have hDc := hD.sub (ws' := (wB k aB Bslopes Bcontributions Bvariance BdegreesSum)) [0, 1, 2] rfl rfl
        have hFc := va_free (wc := (wB k aB Bslopes Bcontributions Bvariance BdegreesSum)) hD hS hA [0, 1, 2] rfl
        refine xc_l (va_runV (As := [.int v2]) (rest := [.long r4, .long BdegreesSum, .ref (aB 0)]) ⟨hx, hb, hml, hown, hts⟩ (met_X0_shareOf l D k  aB H.size Bslopes Bcontributions Bvariance BdegreesSum v2 r5 hc5) (cwV 1 hts gX0_reckonDegreesSum_X0_shareOf rfl rfl rfl (by decide +kernel) ⟨Nat.le_of_ble_eq_true rfl, Nat.le_of_ble_eq_true rfl⟩) ⟨pw_blind, va_recv hK hPc (ci := 0) (q0 := 0) rfl rfl, pw_start hPc hK hDc⟩ rfl rfl hl.1 rfl (lv_room (Nat.le_of_ble_eq_true rfl)) dX0_reckonDegreesSum_35 ⟨Nat.zero_le _, Nat.zero_le _⟩) hS hFc (fun H1 locs hP1 hD1 hk1 hS => ?_)
        obtain ⟨hP, hD⟩ := vj (ws' := ((wB k aB Bslopes Bcontributions Bvariance BdegreesSum) ++ (wI k aI Iestimates Ivariances Isorts Iwidths Icounts Ireadings Ifirsts Iseconds Icovariances))) (w1 := (wB k aB Bslopes Bcontributions Bvariance BdegreesSum)) hP hD [0, 1, 2] [3, 4, 5, 6, 7, 8, 9, 10, 11, 12, 13, 14, 15, 16, 17, 18, 19, 20, 21, 22, 23, 24] [22, 23, 24, 0, 1, 2, 3, 4, 5, 6, 7, 8, 9, 10, 11, 12, 13, 14, 15, 16, 17, 18, 19, 20, 21] rfl rfl rfl rfl rfl hk1 hFc hP1 hD1
        clear hP1 hD1 hk1 hFc
        generalize H1 = H at hP hS ⊢
        refine lv_lmul hx hb dX0_reckonDegreesSum_38 ?_
        refine lv_iload_n hx hb dX0_reckonDegreesSum_39 rfl (lv_at hl 0 rfl) ?_
        refine lv_i2l hx hb dX0_reckonDegreesSum_40 rfl ?_
        obtain ⟨hz6, h⟩ := gzL_inv h
        refine lv_ldiv hx hb dX0_reckonDegreesSum_41 hz6 ?_
        refine lv_ladd hx hb dX0_reckonDegreesSum_42 ?_
        refine va_put (D := D) (ci := 0) (v := .long (BdegreesSum + ((r4 * r5) / r2.toInt64))) (ty := .long) (C := RX0) (T := TX0) (N := 4) hx hb hts iX0 tyX0 tyX0_ok nmX0 hown hK hP hD hS 0 rfl rfl 3 (by decide) f22 (fun _ h9 => h9) rfl (by decide +kernel) rfl rfl (Nat.le_of_ble_eq_true rfl) dX0_reckonDegreesSum_43 (fun H locs hP hD hS => ?_)
        replace hP : va_P D vwCl ((wB k aB Bslopes Bcontributions Bvariance (BdegreesSum + ((r4 * r5) / r2.toInt64))) ++ (wI k aI Iestimates Ivariances Isorts Iwidths Icounts Ireadings Ifirsts Iseconds Icovariances)) H := hP
        replace hD : va_D A ((wB k aB Bslopes Bcontributions Bvariance (BdegreesSum + ((r4 * r5) / r2.toInt64))) ++ (wI k aI Iestimates Ivariances Isorts Iwidths Icounts Ireadings Ifirsts Iseconds Icovariances)) := hD
        refine lv_iinc (v := v2 + 1) (lv' := [(2, .int (v2 + 1)), (3, .int r2), (0, .ref (aB 0)), (1, .ref (aI 0))]) hx hb dX0_reckonDegreesSum_46 hl (k := 3) rfl rfl (by decide) rfl (fun ls hl => ?_)
        refine lv_goto (tgt := 7) hx hb dX0_reckonDegreesSum_49 (by decide) ?_
        exact ih _ _ h _ _ _ hP hD hS (lv_sub hl [2, 3, 0] rfl)
  suffices main : ∀ (H : Heap) (locs : List Loc) (ls : Array Slot), va_P D vwCl ((wB k aB Bslopes Bcontributions Bvariance BdegreesSum) ++ (wI k aI Iestimates Ivariances Isorts Iwidths Icounts Ireadings Ifirsts Iseconds Icovariances)) H → va_D A ((wB k aB Bslopes Bcontributions Bvariance BdegreesSum) ++ (wI k aI Iestimates Ivariances Isorts Iwidths Icounts Ireadings Ifirsts Iseconds Icovariances)) → va_S A s.heap H locs → lv_has ls 4 [(0, .ref (aB 0)), (1, .ref (aI 0))] → W p l e rmX0_reckonDegreesSum s m args below meth c H locs 0 0 Q (F0 m 0 ls []) from main _ _ _ hP hD hS hl
  clear hP hD hS hl ls hAe
  intro H locs ls hP hD hS hl
  refine lv_aload_n hx hb dX0_reckonDegreesSum_0 rfl (lv_at hl 0 rfl) ?_
  refine lv_lconst (v := 0) hx hb dX0_reckonDegreesSum_1 (by decide) ?_
  refine va_put (D := D) (ci := 0) (v := .long 0) (ty := .long) (C := RX0) (T := TX0) (N := 4) hx hb hts iX0 tyX0 tyX0_ok nmX0 hown hK hP hD hS 0 rfl rfl 3 (by decide) f22 (fun _ h9 => h9) rfl (by decide +kernel) rfl rfl (Nat.le_of_ble_eq_true rfl) dX0_reckonDegreesSum_2 (fun H locs hP hD hS => ?_)
  replace hP : va_P D vwCl ((wB k aB Bslopes Bcontributions Bvariance 0) ++ (wI k aI Iestimates Ivariances Isorts Iwidths Icounts Ireadings Ifirsts Iseconds Icovariances)) H := hP
  replace hD : va_D A ((wB k aB Bslopes Bcontributions Bvariance 0) ++ (wI k aI Iestimates Ivariances Isorts Iwidths Icounts Ireadings Ifirsts Iseconds Icovariances)) := hD
  refine lv_iconst (v := 0) hx hb dX0_reckonDegreesSum_5 (by decide) ?_
  refine lv_istore_n (lv' := [(2, .int 0), (0, .ref (aB 0)), (1, .ref (aI 0))]) hx hb dX0_reckonDegreesSum_6 rfl hl (by decide) rfl (fun ls hl => ?_)
  refine LH_7 _ (fun BdegreesSum h H locs ls hP hD hS hl => ?_) _ _ _ h _ _ _ hP hD hS (lv_sub hl [1, 2, 0] rfl)
  · skip
    have hP9 := hP
    have hD9 := hD
    have hS9 := hS
    subst hQ
    cases h
    exact W.vret hx hb hr (fun t ht hW => ⟨⟨(), rfl, trivial, by rw [ht]; exact hP9, va_K.moved hW.alike hK, hD9⟩, hS9.F ht⟩) hS9.2.2 dX0_reckonDegreesSum_52
def LX0_reckon_70 (Fkinds : Nat → Int32) (Flefts : Nat → Int32) (Frights : Nat → Int32) (Fsize : Int32) (Froot : Int32) (Iestimates : Nat → Int32) (Ivariances : Nat → Int32) (Icounts : Nat → Int32) (Icovariances : Nat → Nat → Int32) (E120 : Int32 → (Nat → Int64) → (Nat → Int64) → Int64 → Int64 → (Nat → Int64) → (Nat → Int64) → Option ((Nat → Int64) × (Nat → Int64) × Int64 × Int64 × (Nat → Int64) × (Nat → Int64))) : Nat → Int32 → Int32 → (Nat → Int64) → (Nat → Int64) → Int64 → Int64 → (Nat → Int64) → (Nat → Int64) → Option ((Nat → Int64) × (Nat → Int64) × Int64 × Int64 × (Nat → Int64) × (Nat → Int64))
  | 0, _, _, _, _, _, _, _, _ => none
  | fuel + 1, v3, v4, Bslopes, Bcontributions, Bvariance, BdegreesSum, Fvalues, Fslopes => (if v3 ≤ v4 then E120 v3 Bslopes Bcontributions Bvariance BdegreesSum Fvalues Fslopes else gi v3 6 (gi v4 6 (gi v3 6 (gi v4 6 (LX0_reckon_70 Fkinds Flefts Frights Fsize Froot Iestimates Ivariances Icounts Icovariances E120 fuel v3 (v4 + 1) Bslopes Bcontributions (Bvariance + (((2 * (Bslopes v3.toNatClampNeg)) * (Bslopes v4.toNatClampNeg)) * ((Icovariances (v3.toNatClampNeg) v4.toNatClampNeg).toInt64))) BdegreesSum Fvalues Fslopes)))))
def LX0_reckon_19 (Fkinds : Nat → Int32) (Flefts : Nat → Int32) (Frights : Nat → Int32) (Fsize : Int32) (Froot : Int32) (Iestimates : Nat → Int32) (Ivariances : Nat → Int32) (Icounts : Nat → Int32) (Icovariances : Nat → Nat → Int32) (E126 : (Nat → Int64) → (Nat → Int64) → Int64 → Int64 → (Nat → Int64) → (Nat → Int64) → Option ((Nat → Int64) × (Nat → Int64) × Int64 × Int64 × (Nat → Int64) × (Nat → Int64))) : Nat → Int32 → (Nat → Int64) → (Nat → Int64) → Int64 → Int64 → (Nat → Int64) → (Nat → Int64) → Option ((Nat → Int64) × (Nat → Int64) × Int64 × Int64 × (Nat → Int64) × (Nat → Int64))
  | 0, _, _, _, _, _, _, _ => none
  | fuel + 1, v3, Bslopes, Bcontributions, Bvariance, BdegreesSum, Fvalues, Fslopes => (if 6 ≤ v3 then E126 Bslopes Bcontributions Bvariance BdegreesSum Fvalues Fslopes else gi v3 6 (gi v3 6 (gi v3 6 (gi v3 6 (gi v3 6 (LX0_reckon_70 Fkinds Flefts Frights Fsize Froot Iestimates Ivariances Icounts Icovariances (fun (v3 : Int32) (Bslopes : Nat → Int64) (Bcontributions : Nat → Int64) (Bvariance : Int64) (BdegreesSum : Int64) (Fvalues : Nat → Int64) (Fslopes : Nat → Int64) => LX0_reckon_19 Fkinds Flefts Frights Fsize Froot Iestimates Ivariances Icounts Icovariances E126 fuel (v3 + 1) Bslopes Bcontributions Bvariance BdegreesSum Fvalues Fslopes) 1000 v3 0 Bslopes (vp_updL Bcontributions (v3.toNatClampNeg) (((Bslopes v3.toNatClampNeg) * (Bslopes v3.toNatClampNeg)) * ((Ivariances v3.toNatClampNeg).toInt64))) (Bvariance + ((vp_updL Bcontributions (v3.toNatClampNeg) (((Bslopes v3.toNatClampNeg) * (Bslopes v3.toNatClampNeg)) * ((Ivariances v3.toNatClampNeg).toInt64))) v3.toNatClampNeg)) BdegreesSum Fvalues Fslopes))))))
def fX0_reckon (Bslopes : Nat → Int64) (Bcontributions : Nat → Int64) (Bvariance : Int64) (BdegreesSum : Int64) (Fkinds : Nat → Int32) (Flefts : Nat → Int32) (Frights : Nat → Int32) (Fvalues : Nat → Int64) (Fslopes : Nat → Int64) (Fsize : Int32) (Froot : Int32) (Iestimates : Nat → Int32) (Ivariances : Nat → Int32) (Icounts : Nat → Int32) (Icovariances : Nat → Nat → Int32) : Option ((Nat → Int64) × (Nat → Int64) × Int64 × Int64 × (Nat → Int64) × (Nat → Int64)) := bnd3 (fX3_slopesBackward Fkinds Flefts Frights Fvalues Fslopes Fsize Froot Iestimates Bslopes) (fun values_1 slopes_1 wA_1 => LX0_reckon_19 Fkinds Flefts Frights Fsize Froot Iestimates Ivariances Icounts Icovariances (fun (Bslopes : Nat → Int64) (Bcontributions : Nat → Int64) (Bvariance : Int64) (BdegreesSum : Int64) (Fvalues : Nat → Int64) (Fslopes : Nat → Int64) => bnd1 (fX0_reckonDegreesSum Bcontributions Bvariance BdegreesSum Icounts) (fun degreesSum_13 => some (Bslopes, Bcontributions, Bvariance, degreesSum_13, Fvalues, Fslopes))) 1000 0 wA_1 Bcontributions 0 BdegreesSum values_1 slopes_1)
abbrev rmX0_reckon : Room := { frames := 4, cells := 0, slots := 0, locals := 95 }
set_option maxHeartbeats 4000000 in
set_option maxRecDepth 100000 in
theorem met_X0_reckon (l : Launch) (D : va_G) (k : Nat → ClassId)  (aB : Nat → Nat) (aF : Nat → Nat) (aI : Nat → Nat) (sz : Nat) (Bslopes : Nat → Int64) (Bcontributions : Nat → Int64) (Bvariance : Int64) (BdegreesSum : Int64) (Fkinds : Nat → Int32) (Flefts : Nat → Int32) (Frights : Nat → Int32) (Fplaces : Nat → Int32) (Fvalues : Nat → Int64) (Fslopes : Nat → Int64) (Fexponents : Nat → Int32) (Fsize : Int32) (Froot : Int32) (Iestimates : Nat → Int32) (Ivariances : Nat → Int32) (Isorts : Nat → Int32) (Iwidths : Nat → Int32) (Icounts : Nat → Int32) (Ireadings : Nat → Nat → Int32) (Ifirsts : Nat → Int32) (Iseconds : Nat → Int32) (Icovariances : Nat → Nat → Int32)  (RBslopes : Nat → Int64) (RBcontributions : Nat → Int64) (RBvariance : Int64) (RBdegreesSum : Int64) (RFvalues : Nat → Int64) (RFslopes : Nat → Int64) (h : fX0_reckon Bslopes Bcontributions Bvariance BdegreesSum Fkinds Flefts Frights Fvalues Fslopes Fsize Froot Iestimates Ivariances Icounts Icovariances = some (RBslopes, RBcontributions, RBvariance, RBdegreesSum, RFvalues, RFslopes)) : Met l yX0_reckon wsX0_reckon rmX0_reckon (va_Pc [.ref (aB 0), .ref (aF 0), .ref (aI 0)] (PreW D k ((wB k aB Bslopes Bcontributions Bvariance BdegreesSum) ++ (wF k aF Fkinds Flefts Frights Fplaces Fvalues Fslopes Fexponents Fsize Froot) ++ (wI k aI Iestimates Ivariances Isorts Iwidths Icounts Ireadings Ifirsts Iseconds Icovariances)) sz)) (va_Qv (fun _ : Unit => True) (fun _ t => PostW D k (va_A ((wB k aB Bslopes Bcontributions Bvariance BdegreesSum) ++ (wF k aF Fkinds Flefts Frights Fplaces Fvalues Fslopes Fexponents Fsize Froot) ++ (wI k aI Iestimates Ivariances Isorts Iwidths Icounts Ireadings Ifirsts Iseconds Icovariances)) sz) ((wB k aB RBslopes RBcontributions RBvariance RBdegreesSum) ++ (wF k aF Fkinds Flefts Frights Fplaces RFvalues RFslopes Fexponents Fsize Froot) ++ (wI k aI Iestimates Ivariances Isorts Iwidths Icounts Ireadings Ifirsts Iseconds Icovariances)) t) (va_A ((wB k aB Bslopes Bcontributions Bvariance BdegreesSum) ++ (wF k aF Fkinds Flefts Frights Fplaces Fvalues Fslopes Fexponents Fsize Froot) ++ (wI k aI Iestimates Ivariances Isorts Iwidths Icounts Ireadings Ifirsts Iseconds Icovariances)) sz)) 0 0 (va_A ((wB k aB Bslopes Bcontributions Bvariance BdegreesSum) ++ (wF k aF Fkinds Flefts Frights Fplaces Fvalues Fslopes Fexponents Fsize Froot) ++ (wI k aI Iestimates Ivariances Isorts Iwidths Icounts Ireadings Ifirsts Iseconds Icovariances)) sz) := by
  refine Met.ofW (cc := cX0_reckon) (maxL := 5) (ret := none) (by decide) rfl ?_
  intro p e s m args below meth c s₁ B hml hv
  obtain ⟨hav, hsz, hP, hK, hD0⟩ := hv
  have hx := B.exec
  have hb := B.bytes
  have hr := B.returns
  have hts := atoms_spec (ws := wsX0_reckon) B.pre
  have hown : s.vm.findClass RX0 = some m.cls := findClass_of_methodNamed B.named
  have hlocks := B.notSynchronized
  subst hsz
  have hD := hD0.self (sz := s.heap.size)
  clear hD0
  generalize hAe : va_A ((wB k aB Bslopes Bcontributions Bvariance BdegreesSum) ++ (wF k aF Fkinds Flefts Frights Fplaces Fvalues Fslopes Fexponents Fsize Froot) ++ (wI k aI Iestimates Ivariances Isorts Iwidths Icounts Ireadings Ifirsts Iseconds Icovariances)) s.heap.size = A at hD ⊢
  have hA : ∀ q : Nat, s.heap.size ≤ q → A q := fun q h => by rw [← hAe]; exact Or.inr h
  have hS : va_S A s.heap s.heap [] := va_S.rf
  have hl := lv_entry ([.ref (aB 0), .ref (aF 0), .ref (aI 0)]) (n := 5) (Nat.le_of_ble_eq_true rfl)
  rw [show entryFrame m args 5 = entryFrame m ([.ref (aB 0), .ref (aF 0), .ref (aI 0)] : List Value).toArray 5 from by rw [hav], lg_entry_eq]
  generalize (lg_sl ([.ref (aB 0), .ref (aF 0), .ref (aI 0)]) ++ List.replicate (5 - (lg_sl ([.ref (aB 0), .ref (aF 0), .ref (aI 0)])).length) Slot.unset).toArray = ls at hl ⊢
  replace hl : lv_has ls 5 [(0, .ref (aB 0)), (1, .ref (aF 0)), (2, .ref (aI 0))] := hl
  have f9 := hts (.fieldLink RX0 9 "UncertainBook$Budget" "slopes" "[J") (by decide +kernel)
  have f15 := hts (.fieldLink RX0 15 "UncertainBook$Budget" "contributions" "[J") (by decide +kernel)
  have f18 := hts (.fieldLink RX0 18 "UncertainBook$Budget" "variance" "J") (by decide +kernel)
  have f25 := hts (.fieldLink RX0 25 "UncertainBook$Inputs" "estimates" "[I") (by decide +kernel)
  have f37 := hts (.fieldLink RX0 37 "UncertainBook$Inputs" "variances" "[I") (by decide +kernel)
  have f42 := hts (.fieldLink RX0 42 "UncertainBook$Inputs" "covariances" "[[I") (by decide +kernel)
  have kc40 := hts (.constantLong RX0 40 (2)) (by decide +kernel)
  have iX0 : ∀ w ∈ u_ws RX0 TX0 4, w ∈ wsX0_reckon := by decide +kernel
  have iX4 : ∀ w ∈ u_ws RX4 TX4 9, w ∈ wsX0_reckon := by decide +kernel
  refine w_q (fun Q hQ => ?_)
  unfold fX0_reckon at h
  show W p l e rmX0_reckon s m args below meth c s.heap [] 0 0 Q (F0 m 0 ls [])
  have LH_70 : ∀ (E120 : Int32 → (Nat → Int64) → (Nat → Int64) → Int64 → Int64 → (Nat → Int64) → (Nat → Int64) → Option ((Nat → Int64) × (Nat → Int64) × Int64 × Int64 × (Nat → Int64) × (Nat → Int64))) (hE120 : ∀ (v3 : Int32) (Bslopes : Nat → Int64) (Bcontributions : Nat → Int64) (Bvariance : Int64) (BdegreesSum : Int64) (Fvalues : Nat → Int64) (Fslopes : Nat → Int64), E120 v3 Bslopes Bcontributions Bvariance BdegreesSum Fvalues Fslopes = some (RBslopes, RBcontributions, RBvariance, RBdegreesSum, RFvalues, RFslopes) → ∀ (H : Heap) (locs : List Loc) (ls : Array Slot), va_P D vwCl ((wB k aB Bslopes Bcontributions Bvariance BdegreesSum) ++ (wF k aF Fkinds Flefts Frights Fplaces Fvalues Fslopes Fexponents Fsize Froot) ++ (wI k aI Iestimates Ivariances Isorts Iwidths Icounts Ireadings Ifirsts Iseconds Icovariances)) H → va_D A ((wB k aB Bslopes Bcontributions Bvariance BdegreesSum) ++ (wF k aF Fkinds Flefts Frights Fplaces Fvalues Fslopes Fexponents Fsize Froot) ++ (wI k aI Iestimates Ivariances Isorts Iwidths Icounts Ireadings Ifirsts Iseconds Icovariances)) → va_S A s.heap H locs → lv_has ls 5 [(0, .ref (aB 0)), (2, .ref (aI 0)), (3, .int v3)] → W p l e rmX0_reckon s m args below meth c H locs 0 0 Q (F0 m 120 ls [])) (n : Nat) (v3 : Int32) (v4 : Int32) (Bslopes : Nat → Int64) (Bcontributions : Nat → Int64) (Bvariance : Int64) (BdegreesSum : Int64) (Fvalues : Nat → Int64) (Fslopes : Nat → Int64), LX0_reckon_70 Fkinds Flefts Frights Fsize Froot Iestimates Ivariances Icounts Icovariances E120 n v3 v4 Bslopes Bcontributions Bvariance BdegreesSum Fvalues Fslopes = some (RBslopes, RBcontributions, RBvariance, RBdegreesSum, RFvalues, RFslopes) → ∀ (H : Heap) (locs : List Loc) (ls : Array Slot), va_P D vwCl ((wB k aB Bslopes Bcontributions Bvariance BdegreesSum) ++ (wF k aF Fkinds Flefts Frights Fplaces Fvalues Fslopes Fexponents Fsize Froot) ++ (wI k aI Iestimates Ivariances Isorts Iwidths Icounts Ireadings Ifirsts Iseconds Icovariances)) H → va_D A ((wB k aB Bslopes Bcontributions Bvariance BdegreesSum) ++ (wF k aF Fkinds Flefts Frights Fplaces Fvalues Fslopes Fexponents Fsize Froot) ++ (wI k aI Iestimates Ivariances Isorts Iwidths Icounts Ireadings Ifirsts Iseconds Icovariances)) → va_S A s.heap H locs → lv_has ls 5 [(0, .ref (aB 0)), (2, .ref (aI 0)), (3, .int v3), (4, .int v4)] → W p l e rmX0_reckon s m args below meth c H locs 0 0 Q (F0 m 70 ls []) := by
    intro E120 hE120 n
    induction n with
    | zero => intro v3 v4 Bslopes Bcontributions Bvariance BdegreesSum Fvalues Fslopes h; simp [LX0_reckon_70] at h
    | succ n ih =>
    intro v3 v4 Bslopes Bcontributions Bvariance BdegreesSum Fvalues Fslopes h H locs ls hP hD hS hl
    rw [LX0_reckon_70] at h
    refine lv_iload hx hb dX0_reckon_70 (lv_at hl 3 rfl) ?_
    refine lv_iload_n hx hb dX0_reckon_72 rfl (lv_at hl 2 rfl) ?_
    refine lv_icmp_ge (tgt := 120) hx hb dX0_reckon_73 (by decide) (fun c8 => ?_) (fun c8 => ?_)
    · replace h := sf_t c8 h
      exact hE120 _ _ _ _ _ _ _ h _ _ _ hP hD hS (lv_sub hl [0, 1, 2] rfl)
    · replace h := sf_f c8 h
      refine lv_aload_n hx hb dX0_reckon_76 rfl (lv_at hl 0 rfl) ?_
      refine lv_dup hx hb dX0_reckon_77 rfl ?_
      refine va_get (D := D) (ci := 0) (v := .long Bvariance) (C := RX0) (T := TX0) (N := 4) hx hb hts iX0 hown hK hP 0 rfl rfl 2 (by decide) f18 (fun _ h9 => h9) rfl dX0_reckon_78 ?_
      refine lv_ldc2 (v := 2) hx hb hown kc40 dX0_reckon_81 ?_
      refine lv_aload_n hx hb dX0_reckon_84 rfl (lv_at hl 0 rfl) ?_
      refine va_get (D := D) (ci := 0) (v := .ref (aB 1)) (C := RX0) (T := TX0) (N := 4) hx hb hts iX0 hown hK hP 0 rfl rfl 0 (by decide) f9 (fun _ h9 => h9) rfl dX0_reckon_85 ?_
      refine lv_iload_n hx hb dX0_reckon_88 rfl (lv_at hl 2 rfl) ?_
      obtain ⟨hi9, h⟩ := gi_inv h
      refine va_lald hx hb hK hP 1 1 rfl rfl hi9 dX0_reckon_89 ?_
      refine lv_lmul hx hb dX0_reckon_90 ?_
      refine lv_aload_n hx hb dX0_reckon_91 rfl (lv_at hl 0 rfl) ?_
      refine va_get (D := D) (ci := 0) (v := .ref (aB 1)) (C := RX0) (T := TX0) (N := 4) hx hb hts iX0 hown hK hP 0 rfl rfl 0 (by decide) f9 (fun _ h9 => h9) rfl dX0_reckon_92 ?_
      refine lv_iload hx hb dX0_reckon_95 (lv_at hl 3 rfl) ?_
      obtain ⟨hi10, h⟩ := gi_inv h
      refine va_lald hx hb hK hP 1 1 rfl rfl hi10 dX0_reckon_97 ?_
      refine lv_lmul hx hb dX0_reckon_98 ?_
      refine lv_aload_n hx hb dX0_reckon_99 rfl (lv_at hl 1 rfl) ?_
      refine va_get (D := D) (ci := 4) (v := .ref (aI 15)) (C := RX4) (T := TX4) (N := 9) hx hb hts iX4 hown hK hP 11 rfl rfl 8 (by decide) f42 (fun _ h9 => h9) rfl dX0_reckon_100 ?_
      refine lv_iload_n hx hb dX0_reckon_103 rfl (lv_at hl 2 rfl) ?_
      obtain ⟨hi11, h⟩ := gi_inv h
      have hj11 : v3.toNatClampNeg < 6 := vp_lt hi11
      refine va_alda (v := aI (16 + v3.toNatClampNeg)) hx hb hK hP 26 4 rfl rfl hi11 (by rw [if_pos hj11]) dX0_reckon_104 ?_
      refine lv_iload hx hb dX0_reckon_105 (lv_at hl 3 rfl) ?_
      obtain ⟨hi12, h⟩ := gi_inv h
      have hrow : ∀ (M9 : Nat → Nat → Int32) (j : Nat), j < 6 → ((wB k aB Bslopes Bcontributions Bvariance BdegreesSum) ++ (wF k aF Fkinds Flefts Frights Fplaces Fvalues Fslopes Fexponents Fsize Froot) ++ (wI k aI Iestimates Ivariances Isorts Iwidths Icounts Ireadings Ifirsts Iseconds M9))[27 + j]? = some (aI (16 + j), .inl (k 0, 6, .inl (M9 j))) := fun M9 j hj => by rcases (show j = 0 ∨ j = 1 ∨ j = 2 ∨ j = 3 ∨ j = 4 ∨ j = 5 by omega) with rfl | rfl | rfl | rfl | rfl | rfl <;> rfl
      refine va_iald hx hb hK hP (27 + v3.toNatClampNeg) 0 (hrow _ _ hj11) rfl hi12 dX0_reckon_107 ?_
      clear hrow
      refine lv_i2l hx hb dX0_reckon_108 rfl ?_
      refine lv_lmul hx hb dX0_reckon_109 ?_
      refine lv_ladd hx hb dX0_reckon_110 ?_
      refine va_put (D := D) (ci := 0) (v := .long (Bvariance + (((2 * (Bslopes v3.toNatClampNeg)) * (Bslopes v4.toNatClampNeg)) * ((Icovariances (v3.toNatClampNeg) v4.toNatClampNeg).toInt64)))) (ty := .long) (C := RX0) (T := TX0) (N := 4) hx hb hts iX0 tyX0 tyX0_ok nmX0 hown hK hP hD hS 0 rfl rfl 2 (by decide) f18 (fun _ h9 => h9) rfl (by decide +kernel) rfl rfl (Nat.le_of_ble_eq_true rfl) dX0_reckon_111 (fun H locs hP hD hS => ?_)
      replace hP : va_P D vwCl ((wB k aB Bslopes Bcontributions (Bvariance + (((2 * (Bslopes v3.toNatClampNeg)) * (Bslopes v4.toNatClampNeg)) * ((Icovariances (v3.toNatClampNeg) v4.toNatClampNeg).toInt64))) BdegreesSum) ++ (wF k aF Fkinds Flefts Frights Fplaces Fvalues Fslopes Fexponents Fsize Froot) ++ (wI k aI Iestimates Ivariances Isorts Iwidths Icounts Ireadings Ifirsts Iseconds Icovariances)) H := hP
      replace hD : va_D A ((wB k aB Bslopes Bcontributions (Bvariance + (((2 * (Bslopes v3.toNatClampNeg)) * (Bslopes v4.toNatClampNeg)) * ((Icovariances (v3.toNatClampNeg) v4.toNatClampNeg).toInt64))) BdegreesSum) ++ (wF k aF Fkinds Flefts Frights Fplaces Fvalues Fslopes Fexponents Fsize Froot) ++ (wI k aI Iestimates Ivariances Isorts Iwidths Icounts Ireadings Ifirsts Iseconds Icovariances)) := hD
      refine lv_iinc (v := v4 + 1) (lv' := [(4, .int (v4 + 1)), (0, .ref (aB 0)), (2, .ref (aI 0)), (3, .int v3)]) hx hb dX0_reckon_114 hl (k := 3) rfl rfl (by decide) rfl (fun ls hl => ?_)
      refine lv_goto (tgt := 70) hx hb dX0_reckon_117 (by decide) ?_
      exact ih _ _ _ _ _ _ _ _ h _ _ _ hP hD hS (lv_sub hl [1, 2, 3, 0] rfl)
  have LH_19 : ∀ (E126 : (Nat → Int64) → (Nat → Int64) → Int64 → Int64 → (Nat → Int64) → (Nat → Int64) → Option ((Nat → Int64) × (Nat → Int64) × Int64 × Int64 × (Nat → Int64) × (Nat → Int64))) (hE126 : ∀ (Bslopes : Nat → Int64) (Bcontributions : Nat → Int64) (Bvariance : Int64) (BdegreesSum : Int64) (Fvalues : Nat → Int64) (Fslopes : Nat → Int64), E126 Bslopes Bcontributions Bvariance BdegreesSum Fvalues Fslopes = some (RBslopes, RBcontributions, RBvariance, RBdegreesSum, RFvalues, RFslopes) → ∀ (H : Heap) (locs : List Loc) (ls : Array Slot), va_P D vwCl ((wB k aB Bslopes Bcontributions Bvariance BdegreesSum) ++ (wF k aF Fkinds Flefts Frights Fplaces Fvalues Fslopes Fexponents Fsize Froot) ++ (wI k aI Iestimates Ivariances Isorts Iwidths Icounts Ireadings Ifirsts Iseconds Icovariances)) H → va_D A ((wB k aB Bslopes Bcontributions Bvariance BdegreesSum) ++ (wF k aF Fkinds Flefts Frights Fplaces Fvalues Fslopes Fexponents Fsize Froot) ++ (wI k aI Iestimates Ivariances Isorts Iwidths Icounts Ireadings Ifirsts Iseconds Icovariances)) → va_S A s.heap H locs → lv_has ls 5 [(0, .ref (aB 0)), (2, .ref (aI 0))] → W p l e rmX0_reckon s m args below meth c H locs 0 0 Q (F0 m 126 ls [])) (n : Nat) (v3 : Int32) (Bslopes : Nat → Int64) (Bcontributions : Nat → Int64) (Bvariance : Int64) (BdegreesSum : Int64) (Fvalues : Nat → Int64) (Fslopes : Nat → Int64), LX0_reckon_19 Fkinds Flefts Frights Fsize Froot Iestimates Ivariances Icounts Icovariances E126 n v3 Bslopes Bcontributions Bvariance BdegreesSum Fvalues Fslopes = some (RBslopes, RBcontributions, RBvariance, RBdegreesSum, RFvalues, RFslopes) → ∀ (H : Heap) (locs : List Loc) (ls : Array Slot), va_P D vwCl ((wB k aB Bslopes Bcontributions Bvariance BdegreesSum) ++ (wF k aF Fkinds Flefts Frights Fplaces Fvalues Fslopes Fexponents Fsize Froot) ++ (wI k aI Iestimates Ivariances Isorts Iwidths Icounts Ireadings Ifirsts Iseconds Icovariances)) H → va_D A ((wB k aB Bslopes Bcontributions Bvariance BdegreesSum) ++ (wF k aF Fkinds Flefts Frights Fplaces Fvalues Fslopes Fexponents Fsize Froot) ++ (wI k aI Iestimates Ivariances Isorts Iwidths Icounts Ireadings Ifirsts Iseconds Icovariances)) → va_S A s.heap H locs → lv_has ls 5 [(0, .ref (aB 0)), (2, .ref (aI 0)), (3, .int v3)] → W p l e rmX0_reckon s m args below meth c H locs 0 0 Q (F0 m 19 ls []) := by
    intro E126 hE126 n
    induction n with
    | zero => intro v3 Bslopes Bcontributions Bvariance BdegreesSum Fvalues Fslopes h; simp [LX0_reckon_19] at h
    | succ n ih =>
    intro v3 Bslopes Bcontributions Bvariance BdegreesSum Fvalues Fslopes h H locs ls hP hD hS hl
    rw [LX0_reckon_19] at h
    refine lv_iload_n hx hb dX0_reckon_19 rfl (lv_at hl 2 rfl) ?_
    refine lv_bipush (v := 6) hx hb dX0_reckon_20 (by decide) ?_
    refine lv_icmp_ge (tgt := 126) hx hb dX0_reckon_22 (by decide) (fun c2 => ?_) (fun c2 => ?_)
    · replace h := sf_t c2 h
      exact hE126 _ _ _ _ _ _ h _ _ _ hP hD hS (lv_sub hl [0, 1] rfl)
    · replace h := sf_f c2 h
      refine lv_aload_n hx hb dX0_reckon_25 rfl (lv_at hl 0 rfl) ?_
      refine va_get (D := D) (ci := 0) (v := .ref (aB 2)) (C := RX0) (T := TX0) (N := 4) hx hb hts iX0 hown hK hP 0 rfl rfl 1 (by decide) f15 (fun _ h9 => h9) rfl dX0_reckon_26 ?_
      refine lv_iload_n hx hb dX0_reckon_29 rfl (lv_at hl 2 rfl) ?_
      refine lv_aload_n hx hb dX0_reckon_30 rfl (lv_at hl 0 rfl) ?_
      refine va_get (D := D) (ci := 0) (v := .ref (aB 1)) (C := RX0) (T := TX0) (N := 4) hx hb hts iX0 hown hK hP 0 rfl rfl 0 (by decide) f9 (fun _ h9 => h9) rfl dX0_reckon_31 ?_
      refine lv_iload_n hx hb dX0_reckon_34 rfl (lv_at hl 2 rfl) ?_
      obtain ⟨hi3, h⟩ := gi_inv h
      refine va_lald hx hb hK hP 1 1 rfl rfl hi3 dX0_reckon_35 ?_
      refine lv_aload_n hx hb dX0_reckon_36 rfl (lv_at hl 0 rfl) ?_
      refine va_get (D := D) (ci := 0) (v := .ref (aB 1)) (C := RX0) (T := TX0) (N := 4) hx hb hts iX0 hown hK hP 0 rfl rfl 0 (by decide) f9 (fun _ h9 => h9) rfl dX0_reckon_37 ?_
      refine lv_iload_n hx hb dX0_reckon_40 rfl (lv_at hl 2 rfl) ?_
      obtain ⟨hi4, h⟩ := gi_inv h
      refine va_lald hx hb hK hP 1 1 rfl rfl hi4 dX0_reckon_41 ?_
      refine lv_lmul hx hb dX0_reckon_42 ?_
      refine lv_aload_n hx hb dX0_reckon_43 rfl (lv_at hl 1 rfl) ?_
      refine va_get (D := D) (ci := 4) (v := .ref (aI 2)) (C := RX4) (T := TX4) (N := 9) hx hb hts iX4 hown hK hP 11 rfl rfl 1 (by decide) f37 (fun _ h9 => h9) rfl dX0_reckon_44 ?_
      refine lv_iload_n hx hb dX0_reckon_47 rfl (lv_at hl 2 rfl) ?_
      obtain ⟨hi5, h⟩ := gi_inv h
      refine va_iald hx hb hK hP 13 0 rfl rfl hi5 dX0_reckon_48 ?_
      refine lv_i2l hx hb dX0_reckon_49 rfl ?_
      refine lv_lmul hx hb dX0_reckon_50 ?_
      obtain ⟨hi6, h⟩ := gi_inv h
      refine va_last hx hb hK hP hD hS 2 1 rfl rfl hi6 dX0_reckon_51 (fun H locs hP hD hS => ?_)
      replace hP : va_P D vwCl ((wB k aB Bslopes (vp_updL Bcontributions (v3.toNatClampNeg) (((Bslopes v3.toNatClampNeg) * (Bslopes v3.toNatClampNeg)) * ((Ivariances v3.toNatClampNeg).toInt64))) Bvariance BdegreesSum) ++ (wF k aF Fkinds Flefts Frights Fplaces Fvalues Fslopes Fexponents Fsize Froot) ++ (wI k aI Iestimates Ivariances Isorts Iwidths Icounts Ireadings Ifirsts Iseconds Icovariances)) H := hP
      replace hD : va_D A ((wB k aB Bslopes (vp_updL Bcontributions (v3.toNatClampNeg) (((Bslopes v3.toNatClampNeg) * (Bslopes v3.toNatClampNeg)) * ((Ivariances v3.toNatClampNeg).toInt64))) Bvariance BdegreesSum) ++ (wF k aF Fkinds Flefts Frights Fplaces Fvalues Fslopes Fexponents Fsize Froot) ++ (wI k aI Iestimates Ivariances Isorts Iwidths Icounts Ireadings Ifirsts Iseconds Icovariances)) := hD
      refine lv_aload_n hx hb dX0_reckon_52 rfl (lv_at hl 0 rfl) ?_
      refine lv_dup hx hb dX0_reckon_53 rfl ?_
      refine va_get (D := D) (ci := 0) (v := .long Bvariance) (C := RX0) (T := TX0) (N := 4) hx hb hts iX0 hown hK hP 0 rfl rfl 2 (by decide) f18 (fun _ h9 => h9) rfl dX0_reckon_54 ?_
      refine lv_aload_n hx hb dX0_reckon_57 rfl (lv_at hl 0 rfl) ?_
      refine va_get (D := D) (ci := 0) (v := .ref (aB 2)) (C := RX0) (T := TX0) (N := 4) hx hb hts iX0 hown hK hP 0 rfl rfl 1 (by decide) f15 (fun _ h9 => h9) rfl dX0_reckon_58 ?_
      refine lv_iload_n hx hb dX0_reckon_61 rfl (lv_at hl 2 rfl) ?_
      obtain ⟨hi7, h⟩ := gi_inv h
      refine va_lald hx hb hK hP 2 1 rfl rfl hi7 dX0_reckon_62 ?_
      refine lv_ladd hx hb dX0_reckon_63 ?_
      refine va_put (D := D) (ci := 0) (v := .long (Bvariance + ((vp_updL Bcontributions (v3.toNatClampNeg) (((Bslopes v3.toNatClampNeg) * (Bslopes v3.toNatClampNeg)) * ((Ivariances v3.toNatClampNeg).toInt64))) v3.toNatClampNeg))) (ty := .long) (C := RX0) (T := TX0) (N := 4) hx hb hts iX0 tyX0 tyX0_ok nmX0 hown hK hP hD hS 0 rfl rfl 2 (by decide) f18 (fun _ h9 => h9) rfl (by decide +kernel) rfl rfl (Nat.le_of_ble_eq_true rfl) dX0_reckon_64 (fun H locs hP hD hS => ?_)
      replace hP : va_P D vwCl ((wB k aB Bslopes (vp_updL Bcontributions (v3.toNatClampNeg) (((Bslopes v3.toNatClampNeg) * (Bslopes v3.toNatClampNeg)) * ((Ivariances v3.toNatClampNeg).toInt64))) (Bvariance + ((vp_updL Bcontributions (v3.toNatClampNeg) (((Bslopes v3.toNatClampNeg) * (Bslopes v3.toNatClampNeg)) * ((Ivariances v3.toNatClampNeg).toInt64))) v3.toNatClampNeg)) BdegreesSum) ++ (wF k aF Fkinds Flefts Frights Fplaces Fvalues Fslopes Fexponents Fsize Froot) ++ (wI k aI Iestimates Ivariances Isorts Iwidths Icounts Ireadings Ifirsts Iseconds Icovariances)) H := hP
      replace hD : va_D A ((wB k aB Bslopes (vp_updL Bcontributions (v3.toNatClampNeg) (((Bslopes v3.toNatClampNeg) * (Bslopes v3.toNatClampNeg)) * ((Ivariances v3.toNatClampNeg).toInt64))) (Bvariance + ((vp_updL Bcontributions (v3.toNatClampNeg) (((Bslopes v3.toNatClampNeg) * (Bslopes v3.toNatClampNeg)) * ((Ivariances v3.toNatClampNeg).toInt64))) v3.toNatClampNeg)) BdegreesSum) ++ (wF k aF Fkinds Flefts Frights Fplaces Fvalues Fslopes Fexponents Fsize Froot) ++ (wI k aI Iestimates Ivariances Isorts Iwidths Icounts Ireadings Ifirsts Iseconds Icovariances)) := hD
      refine lv_iconst (v := 0) hx hb dX0_reckon_67 (by decide) ?_
      refine lv_istore (lv' := [(4, .int 0), (0, .ref (aB 0)), (2, .ref (aI 0)), (3, .int v3)]) hx hb dX0_reckon_68 hl (by decide) rfl (fun ls hl => ?_)
      refine LH_70 _ (fun v3 Bslopes Bcontributions Bvariance BdegreesSum Fvalues Fslopes h H locs ls hP hD hS hl => ?_) _ _ _ _ _ _ _ _ _ h _ _ _ hP hD hS (lv_sub hl [1, 2, 3, 0] rfl)
      · skip
        refine lv_iinc (v := v3 + 1) (lv' := [(3, .int (v3 + 1)), (0, .ref (aB 0)), (2, .ref (aI 0))]) hx hb dX0_reckon_120 hl (k := 2) rfl rfl (by decide) rfl (fun ls hl => ?_)
        refine lv_goto (tgt := 19) hx hb dX0_reckon_123 (by decide) ?_
        exact ih _ _ _ _ _ _ _ h _ _ _ hP hD hS (lv_sub hl [1, 2, 0] rfl)
  suffices main : ∀ (H : Heap) (locs : List Loc) (ls : Array Slot), va_P D vwCl ((wB k aB Bslopes Bcontributions Bvariance BdegreesSum) ++ (wF k aF Fkinds Flefts Frights Fplaces Fvalues Fslopes Fexponents Fsize Froot) ++ (wI k aI Iestimates Ivariances Isorts Iwidths Icounts Ireadings Ifirsts Iseconds Icovariances)) H → va_D A ((wB k aB Bslopes Bcontributions Bvariance BdegreesSum) ++ (wF k aF Fkinds Flefts Frights Fplaces Fvalues Fslopes Fexponents Fsize Froot) ++ (wI k aI Iestimates Ivariances Isorts Iwidths Icounts Ireadings Ifirsts Iseconds Icovariances)) → va_S A s.heap H locs → lv_has ls 5 [(0, .ref (aB 0)), (1, .ref (aF 0)), (2, .ref (aI 0))] → W p l e rmX0_reckon s m args below meth c H locs 0 0 Q (F0 m 0 ls []) from main _ _ _ hP hD hS hl
  clear hP hD hS hl ls hAe
  intro H locs ls hP hD hS hl
  refine lv_aload_n hx hb dX0_reckon_0 rfl (lv_at hl 1 rfl) ?_
  refine lv_aload_n hx hb dX0_reckon_1 rfl (lv_at hl 2 rfl) ?_
  refine va_get (D := D) (ci := 4) (v := .ref (aI 1)) (C := RX4) (T := TX4) (N := 9) hx hb hts iX4 hown hK hP 11 rfl rfl 0 (by decide) f25 (fun _ h9 => h9) rfl dX0_reckon_2 ?_
  refine lv_aload_n hx hb dX0_reckon_5 rfl (lv_at hl 0 rfl) ?_
  refine va_get (D := D) (ci := 0) (v := .ref (aB 1)) (C := RX0) (T := TX0) (N := 4) hx hb hts iX0 hown hK hP 0 rfl rfl 0 (by decide) f9 (fun _ h9 => h9) rfl dX0_reckon_6 ?_
  obtain ⟨values_1, slopes_1, wA_1, hc1, h⟩ := bnd3_inv h
  have hPc := hP.sub (ws' := ((wF k aF Fkinds Flefts Frights Fplaces Fvalues Fslopes Fexponents Fsize Froot) ++ ([(aI 1, .inl (k 0, 6, .inl Iestimates))]) ++ ([(aB 1, .inl (k 1, 6, .inr (.inl Bslopes)))]))) [3, 4, 5, 6, 7, 8, 9, 10, 12, 1] rfl
  have hDc := hD.sub (ws' := ((wF k aF Fkinds Flefts Frights Fplaces Fvalues Fslopes Fexponents Fsize Froot) ++ ([(aI 1, .inl (k 0, 6, .inl Iestimates))]) ++ ([(aB 1, .inl (k 1, 6, .inr (.inl Bslopes)))]))) [3, 4, 5, 6, 7, 8, 9, 10, 12, 1] rfl rfl
  have hFc := va_free (wc := ((wF k aF Fkinds Flefts Frights Fplaces Fvalues Fslopes Fexponents Fsize Froot) ++ ([(aI 1, .inl (k 0, 6, .inl Iestimates))]) ++ ([(aB 1, .inl (k 1, 6, .inr (.inl Bslopes)))]))) hD hS hA [3, 4, 5, 6, 7, 8, 9, 10, 12, 1] rfl
  refine xc_v (va_runV (As := [.ref (aI 1), .ref (aB 1)]) (rest := []) ⟨hx, hb, hml, hown, hts⟩ (met_X3_slopesBackward l D k  aF (aI 1) (aB 1) H.size Fkinds Flefts Frights Fplaces Fvalues Fslopes Fexponents Fsize Froot Iestimates Bslopes values_1 slopes_1 wA_1 hc1) (cwV 2 hts gX0_reckon_X3_slopesBackward rfl rfl rfl (by decide +kernel) ⟨Nat.le_of_ble_eq_true rfl, Nat.le_of_ble_eq_true rfl⟩) ⟨pw_blind, va_recv hK hPc (ci := 3) (q0 := 0) rfl rfl, pw_start hPc hK hDc⟩ rfl rfl hl.1 rfl (lv_room (Nat.le_of_ble_eq_true rfl)) dX0_reckon_9 ⟨Nat.zero_le _, Nat.zero_le _⟩) hS hFc (fun H1 locs hP1 hD1 hk1 hS => ?_)
  obtain ⟨hP, hD⟩ := vj (ws' := ((wB k aB wA_1 Bcontributions Bvariance BdegreesSum) ++ (wF k aF Fkinds Flefts Frights Fplaces values_1 slopes_1 Fexponents Fsize Froot) ++ (wI k aI Iestimates Ivariances Isorts Iwidths Icounts Ireadings Ifirsts Iseconds Icovariances))) (w1 := ((wF k aF Fkinds Flefts Frights Fplaces values_1 slopes_1 Fexponents Fsize Froot) ++ ([(aI 1, .inl (k 0, 6, .inl Iestimates))]) ++ ([(aB 1, .inl (k 1, 6, .inr (.inl wA_1)))]))) hP hD [3, 4, 5, 6, 7, 8, 9, 10, 12, 1] [0, 2, 11, 13, 14, 15, 16, 17, 18, 19, 20, 21, 22, 23, 24, 25, 26, 27, 28, 29, 30, 31, 32] [0, 32, 1, 23, 24, 25, 26, 27, 28, 29, 30, 2, 31, 3, 4, 5, 6, 7, 8, 9, 10, 11, 12, 13, 14, 15, 16, 17, 18, 19, 20, 21, 22] rfl rfl rfl rfl rfl hk1 hFc hP1 hD1
  clear hP1 hD1 hk1 hFc
  generalize H1 = H at hP hS ⊢
  refine lv_aload_n hx hb dX0_reckon_12 rfl (lv_at hl 0 rfl) ?_
  refine lv_lconst (v := 0) hx hb dX0_reckon_13 (by decide) ?_
  refine va_put (D := D) (ci := 0) (v := .long 0) (ty := .long) (C := RX0) (T := TX0) (N := 4) hx hb hts iX0 tyX0 tyX0_ok nmX0 hown hK hP hD hS 0 rfl rfl 2 (by decide) f18 (fun _ h9 => h9) rfl (by decide +kernel) rfl rfl (Nat.le_of_ble_eq_true rfl) dX0_reckon_14 (fun H locs hP hD hS => ?_)
  replace hP : va_P D vwCl ((wB k aB wA_1 Bcontributions 0 BdegreesSum) ++ (wF k aF Fkinds Flefts Frights Fplaces values_1 slopes_1 Fexponents Fsize Froot) ++ (wI k aI Iestimates Ivariances Isorts Iwidths Icounts Ireadings Ifirsts Iseconds Icovariances)) H := hP
  replace hD : va_D A ((wB k aB wA_1 Bcontributions 0 BdegreesSum) ++ (wF k aF Fkinds Flefts Frights Fplaces values_1 slopes_1 Fexponents Fsize Froot) ++ (wI k aI Iestimates Ivariances Isorts Iwidths Icounts Ireadings Ifirsts Iseconds Icovariances)) := hD
  refine lv_iconst (v := 0) hx hb dX0_reckon_17 (by decide) ?_
  refine lv_istore_n (lv' := [(3, .int 0), (0, .ref (aB 0)), (1, .ref (aF 0)), (2, .ref (aI 0))]) hx hb dX0_reckon_18 rfl hl (by decide) rfl (fun ls hl => ?_)
  refine LH_19 _ (fun Bslopes Bcontributions Bvariance BdegreesSum Fvalues Fslopes h H locs ls hP hD hS hl => ?_) _ _ _ _ _ _ _ _ h _ _ _ hP hD hS (lv_sub hl [1, 3, 0] rfl)
  · skip
    refine lv_aload_n hx hb dX0_reckon_126 rfl (lv_at hl 0 rfl) ?_
    refine lv_aload_n hx hb dX0_reckon_127 rfl (lv_at hl 1 rfl) ?_
    obtain ⟨degreesSum_13, hc13, h⟩ := bnd1_inv h
    have hPc := hP.sub (ws' := ((wB k aB Bslopes Bcontributions Bvariance BdegreesSum) ++ (wI k aI Iestimates Ivariances Isorts Iwidths Icounts Ireadings Ifirsts Iseconds Icovariances))) [0, 1, 2, 11, 12, 13, 14, 15, 16, 17, 18, 19, 20, 21, 22, 23, 24, 25, 26, 27, 28, 29, 30, 31, 32] rfl
    have hDc := hD.sub (ws' := ((wB k aB Bslopes Bcontributions Bvariance BdegreesSum) ++ (wI k aI Iestimates Ivariances Isorts Iwidths Icounts Ireadings Ifirsts Iseconds Icovariances))) [0, 1, 2, 11, 12, 13, 14, 15, 16, 17, 18, 19, 20, 21, 22, 23, 24, 25, 26, 27, 28, 29, 30, 31, 32] rfl rfl
    have hFc := va_free (wc := ((wB k aB Bslopes Bcontributions Bvariance BdegreesSum) ++ (wI k aI Iestimates Ivariances Isorts Iwidths Icounts Ireadings Ifirsts Iseconds Icovariances))) hD hS hA [0, 1, 2, 11, 12, 13, 14, 15, 16, 17, 18, 19, 20, 21, 22, 23, 24, 25, 26, 27, 28, 29, 30, 31, 32] rfl
    refine xc_v (va_runV (As := [.ref (aI 0)]) (rest := []) ⟨hx, hb, hml, hown, hts⟩ (met_X0_reckonDegreesSum l D k  aB aI H.size Bslopes Bcontributions Bvariance BdegreesSum Iestimates Ivariances Isorts Iwidths Icounts Ireadings Ifirsts Iseconds Icovariances degreesSum_13 hc13) (cwV 1 hts gX0_reckon_X0_reckonDegreesSum rfl rfl rfl (by decide +kernel) ⟨Nat.le_of_ble_eq_true rfl, Nat.le_of_ble_eq_true rfl⟩) ⟨pw_blind, va_recv hK hPc (ci := 0) (q0 := 0) rfl rfl, pw_start hPc hK hDc⟩ rfl rfl hl.1 rfl (lv_room (Nat.le_of_ble_eq_true rfl)) dX0_reckon_128 ⟨Nat.zero_le _, Nat.zero_le _⟩) hS hFc (fun H1 locs hP1 hD1 hk1 hS => ?_)
    obtain ⟨hP, hD⟩ := vj (ws' := ((wB k aB Bslopes Bcontributions Bvariance degreesSum_13) ++ (wF k aF Fkinds Flefts Frights Fplaces Fvalues Fslopes Fexponents Fsize Froot) ++ (wI k aI Iestimates Ivariances Isorts Iwidths Icounts Ireadings Ifirsts Iseconds Icovariances))) (w1 := ((wB k aB Bslopes Bcontributions Bvariance degreesSum_13) ++ (wI k aI Iestimates Ivariances Isorts Iwidths Icounts Ireadings Ifirsts Iseconds Icovariances))) hP hD [0, 1, 2, 11, 12, 13, 14, 15, 16, 17, 18, 19, 20, 21, 22, 23, 24, 25, 26, 27, 28, 29, 30, 31, 32] [3, 4, 5, 6, 7, 8, 9, 10] [8, 9, 10, 0, 1, 2, 3, 4, 5, 6, 7, 11, 12, 13, 14, 15, 16, 17, 18, 19, 20, 21, 22, 23, 24, 25, 26, 27, 28, 29, 30, 31, 32] rfl rfl rfl rfl rfl hk1 hFc hP1 hD1
    clear hP1 hD1 hk1 hFc
    generalize H1 = H at hP hS ⊢
    have hP9 := hP
    have hD9 := hD
    have hS9 := hS
    subst hQ
    cases h
    exact W.vret hx hb hr (fun t ht hW => ⟨⟨(), rfl, trivial, by rw [ht]; exact hP9, va_K.moved hW.alike hK, hD9⟩, hS9.F ht⟩) hS9.2.2 dX0_reckon_131
def BX0_rankOf_31 (Bcontributions : Nat → Int64) (v1 : Int32) (K : Int32 → Int32 → Option (Int32)) (E68 : Int32 → Option (Int32)) (v2 : Int32) (v3 : Int32) (s0 : Int32) : Option (Int32) := gi v3 6 (gi v1 6 ((if 0 < (lg_cmp (Bcontributions v3.toNatClampNeg) (Bcontributions v1.toNatClampNeg)) then K (v2 + 1) (v3 + 1) else (if s0 = 0 then K v2 (v3 + 1) else (if v1 ≤ v3 then K v2 (v3 + 1) else K (v2 + 1) (v3 + 1))))))
def LX0_rankOf_4 (Bcontributions : Nat → Int64) (v1 : Int32) (E68 : Int32 → Option (Int32)) : Nat → Int32 → Int32 → Option (Int32)
  | 0, _, _ => none
  | fuel + 1, v2, v3 => (if 6 ≤ v3 then E68 v2 else gi v3 6 (gi v1 6 ((if (lg_cmp (Bcontributions v3.toNatClampNeg) (Bcontributions v1.toNatClampNeg)) = 0 then BX0_rankOf_31 Bcontributions v1 (LX0_rankOf_4 Bcontributions v1 E68 fuel) E68 v2 v3 1 else BX0_rankOf_31 Bcontributions v1 (LX0_rankOf_4 Bcontributions v1 E68 fuel) E68 v2 v3 0))))
def fX0_rankOf (v1 : Int32) (Bcontributions : Nat → Int64) : Option (Int32) := LX0_rankOf_4 Bcontributions v1 (fun (v2 : Int32) => some (v2)) 1000 0 0
abbrev rmX0_rankOf : Room := { frames := 0, cells := 0, slots := 0, locals := 0 }
set_option maxHeartbeats 4000000 in
set_option maxRecDepth 100000 in
theorem met_X0_rankOf (l : Launch) (D : va_G) (k : Nat → ClassId)  (aB : Nat → Nat) (sz : Nat) (Bslopes : Nat → Int64) (Bcontributions : Nat → Int64) (Bvariance : Int64) (BdegreesSum : Int64) (v1 : Int32) (r : Int32) (h : fX0_rankOf v1 Bcontributions = some r) : Met l yX0_rankOf wsX0_rankOf rmX0_rankOf (va_Pc [.ref (aB 0), .int v1] (PreW D k (wB k aB Bslopes Bcontributions Bvariance BdegreesSum) sz)) (va_Qi (fun r9 (_ : Unit) => r9 = r) (fun _ t => PostW D k (va_A (wB k aB Bslopes Bcontributions Bvariance BdegreesSum) sz) (wB k aB Bslopes Bcontributions Bvariance BdegreesSum) t) (va_A (wB k aB Bslopes Bcontributions Bvariance BdegreesSum) sz)) 0 0 (va_A (wB k aB Bslopes Bcontributions Bvariance BdegreesSum) sz) := by
  refine Met.ofW (cc := cX0_rankOf) (maxL := 5) (ret := (some .int)) (by decide) rfl ?_
  intro p e s m args below meth c s₁ B hml hv
  obtain ⟨hav, hsz, hP, hK, hD0⟩ := hv
  have hx := B.exec
  have hb := B.bytes
  have hr := B.returns
  have hts := atoms_spec (ws := wsX0_rankOf) B.pre
  have hown : s.vm.findClass RX0 = some m.cls := findClass_of_methodNamed B.named
  have hlocks := B.notSynchronized
  subst hsz
  have hD := hD0.self (sz := s.heap.size)
  clear hD0
  generalize hAe : va_A (wB k aB Bslopes Bcontributions Bvariance BdegreesSum) s.heap.size = A at hD ⊢
  have hA : ∀ q : Nat, s.heap.size ≤ q → A q := fun q h => by rw [← hAe]; exact Or.inr h
  have hS : va_S A s.heap s.heap [] := va_S.rf
  have hl := lv_entry ([.ref (aB 0), .int v1]) (n := 5) (Nat.le_of_ble_eq_true rfl)
  rw [show entryFrame m args 5 = entryFrame m ([.ref (aB 0), .int v1] : List Value).toArray 5 from by rw [hav], lg_entry_eq]
  generalize (lg_sl ([.ref (aB 0), .int v1]) ++ List.replicate (5 - (lg_sl ([.ref (aB 0), .int v1])).length) Slot.unset).toArray = ls at hl ⊢
  replace hl : lv_has ls 5 [(0, .ref (aB 0)), (1, .int v1)] := hl
  have f15 := hts (.fieldLink RX0 15 "UncertainBook$Budget" "contributions" "[J") (by decide +kernel)
  have iX0 : ∀ w ∈ u_ws RX0 TX0 4, w ∈ wsX0_rankOf := by decide +kernel
  refine w_q (fun Q hQ => ?_)
  unfold fX0_rankOf at h
  show W p l e rmX0_rankOf s m args below meth c s.heap [] 0 0 Q (F0 m 0 ls [])
  have BH_31 : ∀ (K : Int32 → Int32 → Option (Int32)) (hKK : ∀ (v2 : Int32) (v3 : Int32), K v2 v3 = some r → ∀ (H : Heap) (locs : List Loc) (ls : Array Slot), va_P D vwCl (wB k aB Bslopes Bcontributions Bvariance BdegreesSum) H → va_D A (wB k aB Bslopes Bcontributions Bvariance BdegreesSum) → va_S A s.heap H locs → lv_has ls 5 [(0, .ref (aB 0)), (1, .int v1), (2, .int v2), (3, .int v3)] → W p l e rmX0_rankOf s m args below meth c H locs 0 0 Q (F0 m 4 ls [])) (E68 : Int32 → Option (Int32)) (hE68 : ∀ (v2 : Int32), E68 v2 = some r → ∀ (H : Heap) (locs : List Loc) (ls : Array Slot), va_P D vwCl (wB k aB Bslopes Bcontributions Bvariance BdegreesSum) H → va_D A (wB k aB Bslopes Bcontributions Bvariance BdegreesSum) → va_S A s.heap H locs → lv_has ls 5 [(2, .int v2)] → W p l e rmX0_rankOf s m args below meth c H locs 0 0 Q (F0 m 68 ls [])) (v2 : Int32) (v3 : Int32) (s0 : Int32), BX0_rankOf_31 Bcontributions v1 K E68 v2 v3 s0 = some r → ∀ (H : Heap) (locs : List Loc) (ls : Array Slot), va_P D vwCl (wB k aB Bslopes Bcontributions Bvariance BdegreesSum) H → va_D A (wB k aB Bslopes Bcontributions Bvariance BdegreesSum) → va_S A s.heap H locs → lv_has ls 5 [(0, .ref (aB 0)), (1, .int v1), (2, .int v2), (3, .int v3)] → W p l e rmX0_rankOf s m args below meth c H locs 0 0 Q (F0 m 31 ls [.int s0]) := by
    intro K hKK E68 hE68 v2 v3 s0 h H locs ls hP hD hS hl
    unfold BX0_rankOf_31 at h
    refine lv_istore (lv' := [(4, .int s0), (0, .ref (aB 0)), (1, .int v1), (2, .int v2), (3, .int v3)]) hx hb dX0_rankOf_31 hl (by decide) rfl (fun ls hl => ?_)
    refine lv_aload_n hx hb dX0_rankOf_33 rfl (lv_at hl 1 rfl) ?_
    refine va_get (D := D) (ci := 0) (v := .ref (aB 2)) (C := RX0) (T := TX0) (N := 4) hx hb hts iX0 hown hK hP 0 rfl rfl 1 (by decide) f15 (fun _ h9 => h9) rfl dX0_rankOf_34 ?_
    refine lv_iload_n hx hb dX0_rankOf_37 rfl (lv_at hl 4 rfl) ?_
    obtain ⟨hi5, h⟩ := gi_inv h
    refine va_lald hx hb hK hP 2 1 rfl rfl hi5 dX0_rankOf_38 ?_
    refine lv_aload_n hx hb dX0_rankOf_39 rfl (lv_at hl 1 rfl) ?_
    refine va_get (D := D) (ci := 0) (v := .ref (aB 2)) (C := RX0) (T := TX0) (N := 4) hx hb hts iX0 hown hK hP 0 rfl rfl 1 (by decide) f15 (fun _ h9 => h9) rfl dX0_rankOf_40 ?_
    refine lv_iload_n hx hb dX0_rankOf_43 rfl (lv_at hl 2 rfl) ?_
    obtain ⟨hi6, h⟩ := gi_inv h
    refine va_lald hx hb hK hP 2 1 rfl rfl hi6 dX0_rankOf_44 ?_
    refine W.lcmp hx hb dX0_rankOf_45 ?_
    refine lv_if_gt (tgt := 59) hx hb dX0_rankOf_46 (by decide) (fun c7 => ?_) (fun c7 => ?_)
    · replace h := sf_t c7 h
      refine lv_iinc (v := v2 + 1) (lv' := [(2, .int (v2 + 1)), (4, .int s0), (0, .ref (aB 0)), (1, .int v1), (3, .int v3)]) hx hb dX0_rankOf_59 hl (k := 3) rfl rfl (by decide) rfl (fun ls hl => ?_)
      refine lv_iinc (v := v3 + 1) (lv' := [(3, .int (v3 + 1)), (2, .int (v2 + 1)), (4, .int s0), (0, .ref (aB 0)), (1, .int v1)]) hx hb dX0_rankOf_62 hl (k := 4) rfl rfl (by decide) rfl (fun ls hl => ?_)
      refine lv_goto (tgt := 4) hx hb dX0_rankOf_65 (by decide) ?_
      exact hKK _ _ h _ _ _ hP hD hS (lv_sub hl [3, 4, 1, 0] rfl)
    · replace h := sf_f c7 h
      refine lv_iload hx hb dX0_rankOf_49 (lv_at hl 0 rfl) ?_
      refine lv_if_eq (tgt := 62) hx hb dX0_rankOf_51 (by decide) (fun c8 => ?_) (fun c8 => ?_)
      · replace h := sf_t c8 h
        refine lv_iinc (v := v3 + 1) (lv' := [(3, .int (v3 + 1)), (4, .int s0), (0, .ref (aB 0)), (1, .int v1), (2, .int v2)]) hx hb dX0_rankOf_62 hl (k := 4) rfl rfl (by decide) rfl (fun ls hl => ?_)
        refine lv_goto (tgt := 4) hx hb dX0_rankOf_65 (by decide) ?_
        exact hKK _ _ h _ _ _ hP hD hS (lv_sub hl [2, 3, 4, 0] rfl)
      · replace h := sf_f c8 h
        refine lv_iload_n hx hb dX0_rankOf_54 rfl (lv_at hl 4 rfl) ?_
        refine lv_iload_n hx hb dX0_rankOf_55 rfl (lv_at hl 2 rfl) ?_
        refine lv_icmp_ge (tgt := 62) hx hb dX0_rankOf_56 (by decide) (fun c9 => ?_) (fun c9 => ?_)
        · replace h := sf_t c9 h
          refine lv_iinc (v := v3 + 1) (lv' := [(3, .int (v3 + 1)), (4, .int s0), (0, .ref (aB 0)), (1, .int v1), (2, .int v2)]) hx hb dX0_rankOf_62 hl (k := 4) rfl rfl (by decide) rfl (fun ls hl => ?_)
          refine lv_goto (tgt := 4) hx hb dX0_rankOf_65 (by decide) ?_
          exact hKK _ _ h _ _ _ hP hD hS (lv_sub hl [2, 3, 4, 0] rfl)
        · replace h := sf_f c9 h
          refine lv_iinc (v := v2 + 1) (lv' := [(2, .int (v2 + 1)), (4, .int s0), (0, .ref (aB 0)), (1, .int v1), (3, .int v3)]) hx hb dX0_rankOf_59 hl (k := 3) rfl rfl (by decide) rfl (fun ls hl => ?_)
          refine lv_iinc (v := v3 + 1) (lv' := [(3, .int (v3 + 1)), (2, .int (v2 + 1)), (4, .int s0), (0, .ref (aB 0)), (1, .int v1)]) hx hb dX0_rankOf_62 hl (k := 4) rfl rfl (by decide) rfl (fun ls hl => ?_)
          refine lv_goto (tgt := 4) hx hb dX0_rankOf_65 (by decide) ?_
          exact hKK _ _ h _ _ _ hP hD hS (lv_sub hl [3, 4, 1, 0] rfl)
  have LH_4 : ∀ (E68 : Int32 → Option (Int32)) (hE68 : ∀ (v2 : Int32), E68 v2 = some r → ∀ (H : Heap) (locs : List Loc) (ls : Array Slot), va_P D vwCl (wB k aB Bslopes Bcontributions Bvariance BdegreesSum) H → va_D A (wB k aB Bslopes Bcontributions Bvariance BdegreesSum) → va_S A s.heap H locs → lv_has ls 5 [(2, .int v2)] → W p l e rmX0_rankOf s m args below meth c H locs 0 0 Q (F0 m 68 ls [])) (n : Nat) (v2 : Int32) (v3 : Int32), LX0_rankOf_4 Bcontributions v1 E68 n v2 v3 = some r → ∀ (H : Heap) (locs : List Loc) (ls : Array Slot), va_P D vwCl (wB k aB Bslopes Bcontributions Bvariance BdegreesSum) H → va_D A (wB k aB Bslopes Bcontributions Bvariance BdegreesSum) → va_S A s.heap H locs → lv_has ls 5 [(0, .ref (aB 0)), (1, .int v1), (2, .int v2), (3, .int v3)] → W p l e rmX0_rankOf s m args below meth c H locs 0 0 Q (F0 m 4 ls []) := by
    intro E68 hE68 n
    induction n with
    | zero => intro v2 v3 h; simp [LX0_rankOf_4] at h
    | succ n ih =>
    intro v2 v3 h H locs ls hP hD hS hl
    rw [LX0_rankOf_4] at h
    refine lv_iload_n hx hb dX0_rankOf_4 rfl (lv_at hl 3 rfl) ?_
    refine lv_bipush (v := 6) hx hb dX0_rankOf_5 (by decide) ?_
    refine lv_icmp_ge (tgt := 68) hx hb dX0_rankOf_7 (by decide) (fun c1 => ?_) (fun c1 => ?_)
    · replace h := sf_t c1 h
      exact hE68 _ h _ _ _ hP hD hS (lv_sub hl [2] rfl)
    · replace h := sf_f c1 h
      refine lv_aload_n hx hb dX0_rankOf_10 rfl (lv_at hl 0 rfl) ?_
      refine va_get (D := D) (ci := 0) (v := .ref (aB 2)) (C := RX0) (T := TX0) (N := 4) hx hb hts iX0 hown hK hP 0 rfl rfl 1 (by decide) f15 (fun _ h9 => h9) rfl dX0_rankOf_11 ?_
      refine lv_iload_n hx hb dX0_rankOf_14 rfl (lv_at hl 3 rfl) ?_
      obtain ⟨hi2, h⟩ := gi_inv h
      refine va_lald hx hb hK hP 2 1 rfl rfl hi2 dX0_rankOf_15 ?_
      refine lv_aload_n hx hb dX0_rankOf_16 rfl (lv_at hl 0 rfl) ?_
      refine va_get (D := D) (ci := 0) (v := .ref (aB 2)) (C := RX0) (T := TX0) (N := 4) hx hb hts iX0 hown hK hP 0 rfl rfl 1 (by decide) f15 (fun _ h9 => h9) rfl dX0_rankOf_17 ?_
      refine lv_iload_n hx hb dX0_rankOf_20 rfl (lv_at hl 1 rfl) ?_
      obtain ⟨hi3, h⟩ := gi_inv h
      refine va_lald hx hb hK hP 2 1 rfl rfl hi3 dX0_rankOf_21 ?_
      refine W.lcmp hx hb dX0_rankOf_22 ?_
      refine lv_if_ne (tgt := 30) hx hb dX0_rankOf_23 (by decide) (fun c4 => ?_) (fun c4 => ?_)
      · replace h := sf_f c4 h
        refine lv_iconst (v := 0) hx hb dX0_rankOf_30 (by decide) ?_
        exact BH_31 _ ih _ hE68 _ _ _ h _ _ _ hP hD hS (lv_sub hl [0, 1, 2, 3] rfl)
      · replace h := sf_t c4 h
        refine lv_iconst (v := 1) hx hb dX0_rankOf_26 (by decide) ?_
        refine lv_goto (tgt := 31) hx hb dX0_rankOf_27 (by decide) ?_
        exact BH_31 _ ih _ hE68 _ _ _ h _ _ _ hP hD hS (lv_sub hl [0, 1, 2, 3] rfl)
  suffices main : ∀ (H : Heap) (locs : List Loc) (ls : Array Slot), va_P D vwCl (wB k aB Bslopes Bcontributions Bvariance BdegreesSum) H → va_D A (wB k aB Bslopes Bcontributions Bvariance BdegreesSum) → va_S A s.heap H locs → lv_has ls 5 [(0, .ref (aB 0)), (1, .int v1)] → W p l e rmX0_rankOf s m args below meth c H locs 0 0 Q (F0 m 0 ls []) from main _ _ _ hP hD hS hl
  clear hP hD hS hl ls hAe
  intro H locs ls hP hD hS hl
  refine lv_iconst (v := 0) hx hb dX0_rankOf_0 (by decide) ?_
  refine lv_istore_n (lv' := [(2, .int 0), (0, .ref (aB 0)), (1, .int v1)]) hx hb dX0_rankOf_1 rfl hl (by decide) rfl (fun ls hl => ?_)
  refine lv_iconst (v := 0) hx hb dX0_rankOf_2 (by decide) ?_
  refine lv_istore_n (lv' := [(3, .int 0), (2, .int 0), (0, .ref (aB 0)), (1, .int v1)]) hx hb dX0_rankOf_3 rfl hl (by decide) rfl (fun ls hl => ?_)
  refine LH_4 _ (fun v2 h H locs ls hP hD hS hl => ?_) _ _ _ h _ _ _ hP hD hS (lv_sub hl [2, 3, 1, 0] rfl)
  · skip
    refine lv_iload_n hx hb dX0_rankOf_68 rfl (lv_at hl 0 rfl) ?_
    have hP9 := hP
    have hD9 := hD
    have hS9 := hS
    subst hQ
    cases h
    exact W.iret hx hb hr (fun t ht hW => ⟨⟨_, (), rfl, rfl, by rw [ht]; exact hP9, va_K.moved hW.alike hK, hD9⟩, hS9.F ht⟩) hS9.2.2 dX0_rankOf_69
def LX0_inputAtRank_2 (Bcontributions : Nat → Int64) (v1 : Int32) (E17 : Int32 → Option (Int32)) (E25 : Option (Int32)) : Nat → Int32 → Option (Int32)
  | 0, _ => none
  | fuel + 1, v2 => (if 6 ≤ v2 then E25 else bnd1 (fX0_rankOf v2 Bcontributions) (fun r2 => (if r2 = v1 then E17 v2 else LX0_inputAtRank_2 Bcontributions v1 E17 E25 fuel (v2 + 1))))
def fX0_inputAtRank (v1 : Int32) (Bcontributions : Nat → Int64) : Option (Int32) := LX0_inputAtRank_2 Bcontributions v1 (fun (v2 : Int32) => some (v2)) (some ((-1))) 1000 0
abbrev rmX0_inputAtRank : Room := { frames := 1, cells := 0, slots := 0, locals := 24 }
set_option maxHeartbeats 4000000 in
set_option maxRecDepth 100000 in
theorem met_X0_inputAtRank (l : Launch) (D : va_G) (k : Nat → ClassId)  (aB : Nat → Nat) (sz : Nat) (Bslopes : Nat → Int64) (Bcontributions : Nat → Int64) (Bvariance : Int64) (BdegreesSum : Int64) (v1 : Int32) (r : Int32) (h : fX0_inputAtRank v1 Bcontributions = some r) : Met l yX0_inputAtRank wsX0_inputAtRank rmX0_inputAtRank (va_Pc [.ref (aB 0), .int v1] (PreW D k (wB k aB Bslopes Bcontributions Bvariance BdegreesSum) sz)) (va_Qi (fun r9 (_ : Unit) => r9 = r) (fun _ t => PostW D k (va_A (wB k aB Bslopes Bcontributions Bvariance BdegreesSum) sz) (wB k aB Bslopes Bcontributions Bvariance BdegreesSum) t) (va_A (wB k aB Bslopes Bcontributions Bvariance BdegreesSum) sz)) 0 0 (va_A (wB k aB Bslopes Bcontributions Bvariance BdegreesSum) sz) := by
  refine Met.ofW (cc := cX0_inputAtRank) (maxL := 3) (ret := (some .int)) (by decide) rfl ?_
  intro p e s m args below meth c s₁ B hml hv
  obtain ⟨hav, hsz, hP, hK, hD0⟩ := hv
  have hx := B.exec
  have hb := B.bytes
  have hr := B.returns
  have hts := atoms_spec (ws := wsX0_inputAtRank) B.pre
  have hown : s.vm.findClass RX0 = some m.cls := findClass_of_methodNamed B.named
  have hlocks := B.notSynchronized
  subst hsz
  have hD := hD0.self (sz := s.heap.size)
  clear hD0
  generalize hAe : va_A (wB k aB Bslopes Bcontributions Bvariance BdegreesSum) s.heap.size = A at hD ⊢
  have hA : ∀ q : Nat, s.heap.size ≤ q → A q := fun q h => by rw [← hAe]; exact Or.inr h
  have hS : va_S A s.heap s.heap [] := va_S.rf
  have hl := lv_entry ([.ref (aB 0), .int v1]) (n := 3) (Nat.le_of_ble_eq_true rfl)
  rw [show entryFrame m args 3 = entryFrame m ([.ref (aB 0), .int v1] : List Value).toArray 3 from by rw [hav], lg_entry_eq]
  generalize (lg_sl ([.ref (aB 0), .int v1]) ++ List.replicate (3 - (lg_sl ([.ref (aB 0), .int v1])).length) Slot.unset).toArray = ls at hl ⊢
  replace hl : lv_has ls 3 [(0, .ref (aB 0)), (1, .int v1)] := hl
  refine w_q (fun Q hQ => ?_)
  unfold fX0_inputAtRank at h
  show W p l e rmX0_inputAtRank s m args below meth c s.heap [] 0 0 Q (F0 m 0 ls [])
  have LH_2 : ∀ (E17 : Int32 → Option (Int32)) (hE17 : ∀ (v2 : Int32), E17 v2 = some r → ∀ (H : Heap) (locs : List Loc) (ls : Array Slot), va_P D vwCl (wB k aB Bslopes Bcontributions Bvariance BdegreesSum) H → va_D A (wB k aB Bslopes Bcontributions Bvariance BdegreesSum) → va_S A s.heap H locs → lv_has ls 3 [(2, .int v2)] → W p l e rmX0_inputAtRank s m args below meth c H locs 0 0 Q (F0 m 17 ls [])) (E25 : Option (Int32)) (hE25 : E25 = some r → ∀ (H : Heap) (locs : List Loc) (ls : Array Slot), va_P D vwCl (wB k aB Bslopes Bcontributions Bvariance BdegreesSum) H → va_D A (wB k aB Bslopes Bcontributions Bvariance BdegreesSum) → va_S A s.heap H locs → lv_has ls 3 [] → W p l e rmX0_inputAtRank s m args below meth c H locs 0 0 Q (F0 m 25 ls [])) (n : Nat) (v2 : Int32), LX0_inputAtRank_2 Bcontributions v1 E17 E25 n v2 = some r → ∀ (H : Heap) (locs : List Loc) (ls : Array Slot), va_P D vwCl (wB k aB Bslopes Bcontributions Bvariance BdegreesSum) H → va_D A (wB k aB Bslopes Bcontributions Bvariance BdegreesSum) → va_S A s.heap H locs → lv_has ls 3 [(0, .ref (aB 0)), (1, .int v1), (2, .int v2)] → W p l e rmX0_inputAtRank s m args below meth c H locs 0 0 Q (F0 m 2 ls []) := by
    intro E17 hE17 E25 hE25 n
    induction n with
    | zero => intro v2 h; simp [LX0_inputAtRank_2] at h
    | succ n ih =>
    intro v2 h H locs ls hP hD hS hl
    rw [LX0_inputAtRank_2] at h
    refine lv_iload_n hx hb dX0_inputAtRank_2 rfl (lv_at hl 2 rfl) ?_
    refine lv_bipush (v := 6) hx hb dX0_inputAtRank_3 (by decide) ?_
    refine lv_icmp_ge (tgt := 25) hx hb dX0_inputAtRank_5 (by decide) (fun c1 => ?_) (fun c1 => ?_)
    · replace h := sf_t c1 h
      exact hE25  h _ _ _ hP hD hS (lv_sub hl [] rfl)
    · replace h := sf_f c1 h
      refine lv_aload_n hx hb dX0_inputAtRank_8 rfl (lv_at hl 0 rfl) ?_
      refine lv_iload_n hx hb dX0_inputAtRank_9 rfl (lv_at hl 2 rfl) ?_
      obtain ⟨r2, hc2, h⟩ := bnd1_inv h
      have hFc := va_free (wc := (wB k aB Bslopes Bcontributions Bvariance BdegreesSum)) hD hS hA [0, 1, 2] rfl
      refine xc_i (va_runV (As := [.int v2]) (rest := []) ⟨hx, hb, hml, hown, hts⟩ (met_X0_rankOf l D k  aB H.size Bslopes Bcontributions Bvariance BdegreesSum v2 r2 hc2) (cwV 1 hts gX0_inputAtRank_X0_rankOf rfl rfl rfl (by decide +kernel) ⟨Nat.le_of_ble_eq_true rfl, Nat.le_of_ble_eq_true rfl⟩) ⟨pw_blind, va_recv hK hP (ci := 0) (q0 := 0) rfl rfl, pw_start hP hK hD⟩ rfl rfl hl.1 rfl (lv_room (Nat.le_of_ble_eq_true rfl)) dX0_inputAtRank_10 ⟨Nat.zero_le _, Nat.zero_le _⟩) hS hFc (fun H1 locs hP1 hD1 hk1 hS => ?_)
      obtain ⟨hP, hD⟩ := vj_all hFc hP1 hD1
      clear hP1 hD1 hk1 hFc
      generalize H1 = H at hP hS ⊢
      refine lv_iload_n hx hb dX0_inputAtRank_13 rfl (lv_at hl 1 rfl) ?_
      refine lv_icmp_ne (tgt := 19) hx hb dX0_inputAtRank_14 (by decide) (fun c3 => ?_) (fun c3 => ?_)
      · replace h := sf_f c3 h
        refine lv_iinc (v := v2 + 1) (lv' := [(2, .int (v2 + 1)), (0, .ref (aB 0)), (1, .int v1)]) hx hb dX0_inputAtRank_19 hl (k := 2) rfl rfl (by decide) rfl (fun ls hl => ?_)
        refine lv_goto (tgt := 2) hx hb dX0_inputAtRank_22 (by decide) ?_
        exact ih _ h _ _ _ hP hD hS (lv_sub hl [1, 2, 0] rfl)
      · replace h := sf_t c3 h
        exact hE17 _ h _ _ _ hP hD hS (lv_sub hl [2] rfl)
  suffices main : ∀ (H : Heap) (locs : List Loc) (ls : Array Slot), va_P D vwCl (wB k aB Bslopes Bcontributions Bvariance BdegreesSum) H → va_D A (wB k aB Bslopes Bcontributions Bvariance BdegreesSum) → va_S A s.heap H locs → lv_has ls 3 [(0, .ref (aB 0)), (1, .int v1)] → W p l e rmX0_inputAtRank s m args below meth c H locs 0 0 Q (F0 m 0 ls []) from main _ _ _ hP hD hS hl
  clear hP hD hS hl ls hAe
  intro H locs ls hP hD hS hl
  refine lv_iconst (v := 0) hx hb dX0_inputAtRank_0 (by decide) ?_
  refine lv_istore_n (lv' := [(2, .int 0), (0, .ref (aB 0)), (1, .int v1)]) hx hb dX0_inputAtRank_1 rfl hl (by decide) rfl (fun ls hl => ?_)
  refine LH_2 _ (fun v2 h H locs ls hP hD hS hl => ?_) _ (fun h H locs ls hP hD hS hl => ?_) _ _ h _ _ _ hP hD hS (lv_sub hl [1, 2, 0] rfl)
  · skip
    refine lv_iload_n hx hb dX0_inputAtRank_17 rfl (lv_at hl 0 rfl) ?_
    have hP9 := hP
    have hD9 := hD
    have hS9 := hS
    subst hQ
    cases h
    exact W.iret hx hb hr (fun t ht hW => ⟨⟨_, (), rfl, rfl, by rw [ht]; exact hP9, va_K.moved hW.alike hK, hD9⟩, hS9.F ht⟩) hS9.2.2 dX0_inputAtRank_18
  · skip
    refine lv_iconst (v := -1) hx hb dX0_inputAtRank_25 (by decide) ?_
    have hP9 := hP
    have hD9 := hD
    have hS9 := hS
    subst hQ
    cases h
    exact W.iret hx hb hr (fun t ht hW => ⟨⟨_, (), rfl, rfl, by rw [ht]; exact hP9, va_K.moved hW.alike hK, hD9⟩, hS9.F ht⟩) hS9.2.2 dX0_inputAtRank_26
def LX0_doubt_18 (Bvariance : Int64) (E60 : Int64 → Option (Int64)) : Nat → Int64 → Int32 → Option (Int64)
  | 0, _, _ => none
  | fuel + 1, v1, v3 => (if v3 < 0 then E60 v1 else (if 0 < (lg_cmp (v1 + (jlshl 1 v3)) 3037000499) then LX0_doubt_18 Bvariance E60 fuel v1 (v3 + (-1)) else (if 0 < (lg_cmp ((v1 + (jlshl 1 v3)) * (v1 + (jlshl 1 v3))) Bvariance) then LX0_doubt_18 Bvariance E60 fuel v1 (v3 + (-1)) else LX0_doubt_18 Bvariance E60 fuel (v1 + (jlshl 1 v3)) (v3 + (-1)))))
def fX0_doubt (Bvariance : Int64) : Option (Int64) := (if 0 ≤ (lg_cmp Bvariance 0) then LX0_doubt_18 Bvariance (fun (v1 : Int64) => some (v1)) 1000 0 31 else some ((-1)))
abbrev rmX0_doubt : Room := { frames := 0, cells := 0, slots := 0, locals := 0 }
set_option maxHeartbeats 4000000 in
set_option maxRecDepth 100000 in
theorem met_X0_doubt (l : Launch) (D : va_G) (k : Nat → ClassId)  (aB : Nat → Nat) (sz : Nat) (Bslopes : Nat → Int64) (Bcontributions : Nat → Int64) (Bvariance : Int64) (BdegreesSum : Int64)  (r : Int64) (h : fX0_doubt Bvariance = some r) : Met l yX0_doubt wsX0_doubt rmX0_doubt (va_Pc [.ref (aB 0)] (PreW D k (wB k aB Bslopes Bcontributions Bvariance BdegreesSum) sz)) (va_Ql (fun r9 (_ : Unit) => r9 = r) (fun _ t => PostW D k (va_A (wB k aB Bslopes Bcontributions Bvariance BdegreesSum) sz) (wB k aB Bslopes Bcontributions Bvariance BdegreesSum) t) (va_A (wB k aB Bslopes Bcontributions Bvariance BdegreesSum) sz)) 0 0 (va_A (wB k aB Bslopes Bcontributions Bvariance BdegreesSum) sz) := by
  refine Met.ofW (cc := cX0_doubt) (maxL := 6) (ret := (some .long)) (by decide) rfl ?_
  intro p e s m args below meth c s₁ B hml hv
  obtain ⟨hav, hsz, hP, hK, hD0⟩ := hv
  have hx := B.exec
  have hb := B.bytes
  have hr := B.returns
  have hts := atoms_spec (ws := wsX0_doubt) B.pre
  have hown : s.vm.findClass RX0 = some m.cls := findClass_of_methodNamed B.named
  have hlocks := B.notSynchronized
  subst hsz
  have hD := hD0.self (sz := s.heap.size)
  clear hD0
  generalize hAe : va_A (wB k aB Bslopes Bcontributions Bvariance BdegreesSum) s.heap.size = A at hD ⊢
  have hA : ∀ q : Nat, s.heap.size ≤ q → A q := fun q h => by rw [← hAe]; exact Or.inr h
  have hS : va_S A s.heap s.heap [] := va_S.rf
  have hl := lv_entry ([.ref (aB 0)]) (n := 6) (Nat.le_of_ble_eq_true rfl)
  rw [show entryFrame m args 6 = entryFrame m ([.ref (aB 0)] : List Value).toArray 6 from by rw [hav], lg_entry_eq]
  generalize (lg_sl ([.ref (aB 0)]) ++ List.replicate (6 - (lg_sl ([.ref (aB 0)])).length) Slot.unset).toArray = ls at hl ⊢
  replace hl : lv_has ls 6 [(0, .ref (aB 0))] := hl
  have f18 := hts (.fieldLink RX0 18 "UncertainBook$Budget" "variance" "J") (by decide +kernel)
  have kc63 := hts (.constantLong RX0 63 (-1)) (by decide +kernel)
  have kc65 := hts (.constantLong RX0 65 (3037000499)) (by decide +kernel)
  have iX0 : ∀ w ∈ u_ws RX0 TX0 4, w ∈ wsX0_doubt := by decide +kernel
  refine w_q (fun Q hQ => ?_)
  unfold fX0_doubt at h
  show W p l e rmX0_doubt s m args below meth c s.heap [] 0 0 Q (F0 m 0 ls [])
  have LH_18 : ∀ (E60 : Int64 → Option (Int64)) (hE60 : ∀ (v1 : Int64), E60 v1 = some r → ∀ (H : Heap) (locs : List Loc) (ls : Array Slot), va_P D vwCl (wB k aB Bslopes Bcontributions Bvariance BdegreesSum) H → va_D A (wB k aB Bslopes Bcontributions Bvariance BdegreesSum) → va_S A s.heap H locs → lv_has ls 6 [(1, .long v1)] → W p l e rmX0_doubt s m args below meth c H locs 0 0 Q (F0 m 60 ls [])) (n : Nat) (v1 : Int64) (v3 : Int32), LX0_doubt_18 Bvariance E60 n v1 v3 = some r → ∀ (H : Heap) (locs : List Loc) (ls : Array Slot), va_P D vwCl (wB k aB Bslopes Bcontributions Bvariance BdegreesSum) H → va_D A (wB k aB Bslopes Bcontributions Bvariance BdegreesSum) → va_S A s.heap H locs → lv_has ls 6 [(0, .ref (aB 0)), (1, .long v1), (3, .int v3)] → W p l e rmX0_doubt s m args below meth c H locs 0 0 Q (F0 m 18 ls []) := by
    intro E60 hE60 n
    induction n with
    | zero => intro v1 v3 h; simp [LX0_doubt_18] at h
    | succ n ih =>
    intro v1 v3 h H locs ls hP hD hS hl
    rw [LX0_doubt_18] at h
    refine lv_iload_n hx hb dX0_doubt_18 rfl (lv_at hl 2 rfl) ?_
    refine lv_if_lt (tgt := 60) hx hb dX0_doubt_19 (by decide) (fun c2 => ?_) (fun c2 => ?_)
    · replace h := sf_t c2 h
      exact hE60 _ h _ _ _ hP hD hS (lv_sub hl [1] rfl)
    · replace h := sf_f c2 h
      refine lv_lload_n hx hb dX0_doubt_22 rfl (lv_at hl 1 rfl) ?_
      refine lv_lconst (v := 1) hx hb dX0_doubt_23 (by decide) ?_
      refine lv_iload_n hx hb dX0_doubt_24 rfl (lv_at hl 2 rfl) ?_
      refine lv_lshl (v := jlshl 1 v3) hx hb dX0_doubt_25 rfl ?_
      refine lv_ladd hx hb dX0_doubt_26 ?_
      refine lv_lstore (lv' := [(4, .long (v1 + (jlshl 1 v3))), (0, .ref (aB 0)), (1, .long v1), (3, .int v3)]) hx hb dX0_doubt_27 hl (by decide) rfl (fun ls hl => ?_)
      refine lv_lload hx hb dX0_doubt_29 (lv_at hl 0 rfl) ?_
      refine lv_ldc2 (v := 3037000499) hx hb hown kc65 dX0_doubt_31 ?_
      refine W.lcmp hx hb dX0_doubt_34 ?_
      refine lv_if_gt (tgt := 54) hx hb dX0_doubt_35 (by decide) (fun c3 => ?_) (fun c3 => ?_)
      · replace h := sf_t c3 h
        refine lv_iinc (v := v3 + (-1)) (lv' := [(3, .int (v3 + (-1))), (4, .long (v1 + (jlshl 1 v3))), (0, .ref (aB 0)), (1, .long v1)]) hx hb dX0_doubt_54 hl (k := 3) rfl rfl (by decide) rfl (fun ls hl => ?_)
        refine lv_goto (tgt := 18) hx hb dX0_doubt_57 (by decide) ?_
        exact ih _ _ h _ _ _ hP hD hS (lv_sub hl [2, 3, 0] rfl)
      · replace h := sf_f c3 h
        refine lv_lload hx hb dX0_doubt_38 (lv_at hl 0 rfl) ?_
        refine lv_lload hx hb dX0_doubt_40 (lv_at hl 0 rfl) ?_
        refine lv_lmul hx hb dX0_doubt_42 ?_
        refine lv_aload_n hx hb dX0_doubt_43 rfl (lv_at hl 1 rfl) ?_
        refine va_get (D := D) (ci := 0) (v := .long Bvariance) (C := RX0) (T := TX0) (N := 4) hx hb hts iX0 hown hK hP 0 rfl rfl 2 (by decide) f18 (fun _ h9 => h9) rfl dX0_doubt_44 ?_
        refine W.lcmp hx hb dX0_doubt_47 ?_
        refine lv_if_gt (tgt := 54) hx hb dX0_doubt_48 (by decide) (fun c4 => ?_) (fun c4 => ?_)
        · replace h := sf_t c4 h
          refine lv_iinc (v := v3 + (-1)) (lv' := [(3, .int (v3 + (-1))), (4, .long (v1 + (jlshl 1 v3))), (0, .ref (aB 0)), (1, .long v1)]) hx hb dX0_doubt_54 hl (k := 3) rfl rfl (by decide) rfl (fun ls hl => ?_)
          refine lv_goto (tgt := 18) hx hb dX0_doubt_57 (by decide) ?_
          exact ih _ _ h _ _ _ hP hD hS (lv_sub hl [2, 3, 0] rfl)
        · replace h := sf_f c4 h
          refine lv_lload hx hb dX0_doubt_51 (lv_at hl 0 rfl) ?_
          refine lv_lstore_n (lv' := [(1, .long (v1 + (jlshl 1 v3))), (4, .long (v1 + (jlshl 1 v3))), (0, .ref (aB 0)), (3, .int v3)]) hx hb dX0_doubt_53 rfl hl (by decide) rfl (fun ls hl => ?_)
          refine lv_iinc (v := v3 + (-1)) (lv' := [(3, .int (v3 + (-1))), (1, .long (v1 + (jlshl 1 v3))), (4, .long (v1 + (jlshl 1 v3))), (0, .ref (aB 0))]) hx hb dX0_doubt_54 hl (k := 3) rfl rfl (by decide) rfl (fun ls hl => ?_)
          refine lv_goto (tgt := 18) hx hb dX0_doubt_57 (by decide) ?_
          exact ih _ _ h _ _ _ hP hD hS (lv_sub hl [3, 1, 0] rfl)
  suffices main : ∀ (H : Heap) (locs : List Loc) (ls : Array Slot), va_P D vwCl (wB k aB Bslopes Bcontributions Bvariance BdegreesSum) H → va_D A (wB k aB Bslopes Bcontributions Bvariance BdegreesSum) → va_S A s.heap H locs → lv_has ls 6 [(0, .ref (aB 0))] → W p l e rmX0_doubt s m args below meth c H locs 0 0 Q (F0 m 0 ls []) from main _ _ _ hP hD hS hl
  clear hP hD hS hl ls hAe
  intro H locs ls hP hD hS hl
  refine lv_aload_n hx hb dX0_doubt_0 rfl (lv_at hl 0 rfl) ?_
  refine va_get (D := D) (ci := 0) (v := .long Bvariance) (C := RX0) (T := TX0) (N := 4) hx hb hts iX0 hown hK hP 0 rfl rfl 2 (by decide) f18 (fun _ h9 => h9) rfl dX0_doubt_1 ?_
  refine lv_lconst (v := 0) hx hb dX0_doubt_4 (by decide) ?_
  refine W.lcmp hx hb dX0_doubt_5 ?_
  refine lv_if_ge (tgt := 13) hx hb dX0_doubt_6 (by decide) (fun c1 => ?_) (fun c1 => ?_)
  · replace h := sf_t c1 h
    refine lv_lconst (v := 0) hx hb dX0_doubt_13 (by decide) ?_
    refine lv_lstore_n (lv' := [(1, .long 0), (0, .ref (aB 0))]) hx hb dX0_doubt_14 rfl hl (by decide) rfl (fun ls hl => ?_)
    refine lv_bipush (v := 31) hx hb dX0_doubt_15 (by decide) ?_
    refine lv_istore_n (lv' := [(3, .int 31), (1, .long 0), (0, .ref (aB 0))]) hx hb dX0_doubt_17 rfl hl (by decide) rfl (fun ls hl => ?_)
    refine LH_18 _ (fun v1 h H locs ls hP hD hS hl => ?_) _ _ _ h _ _ _ hP hD hS (lv_sub hl [2, 1, 0] rfl)
    · skip
      refine lv_lload_n hx hb dX0_doubt_60 rfl (lv_at hl 0 rfl) ?_
      have hP9 := hP
      have hD9 := hD
      have hS9 := hS
      subst hQ
      cases h
      exact W.lret hx hb hr (fun t ht hW => ⟨⟨_, (), rfl, rfl, by rw [ht]; exact hP9, va_K.moved hW.alike hK, hD9⟩, hS9.F ht⟩) hS9.2.2 dX0_doubt_61
  · replace h := sf_f c1 h
    refine lv_ldc2 (v := -1) hx hb hown kc63 dX0_doubt_9 ?_
    have hP9 := hP
    have hD9 := hD
    have hS9 := hS
    subst hQ
    cases h
    exact W.lret hx hb hr (fun t ht hW => ⟨⟨_, (), rfl, rfl, by rw [ht]; exact hP9, va_K.moved hW.alike hK, hD9⟩, hS9.F ht⟩) hS9.2.2 dX0_doubt_12
def fX0_degrees (BdegreesSum : Int64) : Option (Int64) := (if (lg_cmp BdegreesSum 0) = 0 then some ((-1)) else gzL BdegreesSum (some (10000 / BdegreesSum)))
abbrev rmX0_degrees : Room := { frames := 0, cells := 0, slots := 0, locals := 0 }
set_option maxHeartbeats 4000000 in
set_option maxRecDepth 100000 in
theorem met_X0_degrees (l : Launch) (D : va_G) (k : Nat → ClassId)  (aB : Nat → Nat) (sz : Nat) (Bslopes : Nat → Int64) (Bcontributions : Nat → Int64) (Bvariance : Int64) (BdegreesSum : Int64)  (r : Int64) (h : fX0_degrees BdegreesSum = some r) : Met l yX0_degrees wsX0_degrees rmX0_degrees (va_Pc [.ref (aB 0)] (PreW D k (wB k aB Bslopes Bcontributions Bvariance BdegreesSum) sz)) (va_Ql (fun r9 (_ : Unit) => r9 = r) (fun _ t => PostW D k (va_A (wB k aB Bslopes Bcontributions Bvariance BdegreesSum) sz) (wB k aB Bslopes Bcontributions Bvariance BdegreesSum) t) (va_A (wB k aB Bslopes Bcontributions Bvariance BdegreesSum) sz)) 0 0 (va_A (wB k aB Bslopes Bcontributions Bvariance BdegreesSum) sz) := by
  refine Met.ofW (cc := cX0_degrees) (maxL := 1) (ret := (some .long)) (by decide) rfl ?_
  intro p e s m args below meth c s₁ B hml hv
  obtain ⟨hav, hsz, hP, hK, hD0⟩ := hv
  have hx := B.exec
  have hb := B.bytes
  have hr := B.returns
  have hts := atoms_spec (ws := wsX0_degrees) B.pre
  have hown : s.vm.findClass RX0 = some m.cls := findClass_of_methodNamed B.named
  have hlocks := B.notSynchronized
  subst hsz
  have hD := hD0.self (sz := s.heap.size)
  clear hD0
  generalize hAe : va_A (wB k aB Bslopes Bcontributions Bvariance BdegreesSum) s.heap.size = A at hD ⊢
  have hA : ∀ q : Nat, s.heap.size ≤ q → A q := fun q h => by rw [← hAe]; exact Or.inr h
  have hS : va_S A s.heap s.heap [] := va_S.rf
  have hl := lv_entry ([.ref (aB 0)]) (n := 1) (Nat.le_of_ble_eq_true rfl)
  rw [show entryFrame m args 1 = entryFrame m ([.ref (aB 0)] : List Value).toArray 1 from by rw [hav], lg_entry_eq]
  generalize (lg_sl ([.ref (aB 0)]) ++ List.replicate (1 - (lg_sl ([.ref (aB 0)])).length) Slot.unset).toArray = ls at hl ⊢
  replace hl : lv_has ls 1 [(0, .ref (aB 0))] := hl
  have f22 := hts (.fieldLink RX0 22 "UncertainBook$Budget" "degreesSum" "J") (by decide +kernel)
  have kc63 := hts (.constantLong RX0 63 (-1)) (by decide +kernel)
  have kc67 := hts (.constantLong RX0 67 (10000)) (by decide +kernel)
  have iX0 : ∀ w ∈ u_ws RX0 TX0 4, w ∈ wsX0_degrees := by decide +kernel
  refine w_q (fun Q hQ => ?_)
  unfold fX0_degrees at h
  show W p l e rmX0_degrees s m args below meth c s.heap [] 0 0 Q (F0 m 0 ls [])
  suffices main : ∀ (H : Heap) (locs : List Loc) (ls : Array Slot), va_P D vwCl (wB k aB Bslopes Bcontributions Bvariance BdegreesSum) H → va_D A (wB k aB Bslopes Bcontributions Bvariance BdegreesSum) → va_S A s.heap H locs → lv_has ls 1 [(0, .ref (aB 0))] → W p l e rmX0_degrees s m args below meth c H locs 0 0 Q (F0 m 0 ls []) from main _ _ _ hP hD hS hl
  clear hP hD hS hl ls hAe
  intro H locs ls hP hD hS hl
  refine lv_aload_n hx hb dX0_degrees_0 rfl (lv_at hl 0 rfl) ?_
  refine va_get (D := D) (ci := 0) (v := .long BdegreesSum) (C := RX0) (T := TX0) (N := 4) hx hb hts iX0 hown hK hP 0 rfl rfl 3 (by decide) f22 (fun _ h9 => h9) rfl dX0_degrees_1 ?_
  refine lv_lconst (v := 0) hx hb dX0_degrees_4 (by decide) ?_
  refine W.lcmp hx hb dX0_degrees_5 ?_
  refine lv_if_ne (tgt := 15) hx hb dX0_degrees_6 (by decide) (fun c1 => ?_) (fun c1 => ?_)
  · replace h := sf_f c1 h
    refine lv_ldc2 (v := 10000) hx hb hown kc67 dX0_degrees_15 ?_
    refine lv_aload_n hx hb dX0_degrees_18 rfl (lv_at hl 0 rfl) ?_
    refine va_get (D := D) (ci := 0) (v := .long BdegreesSum) (C := RX0) (T := TX0) (N := 4) hx hb hts iX0 hown hK hP 0 rfl rfl 3 (by decide) f22 (fun _ h9 => h9) rfl dX0_degrees_19 ?_
    obtain ⟨hz2, h⟩ := gzL_inv h
    refine lv_ldiv hx hb dX0_degrees_22 hz2 ?_
    have hP9 := hP
    have hD9 := hD
    have hS9 := hS
    subst hQ
    cases h
    exact W.lret hx hb hr (fun t ht hW => ⟨⟨_, (), rfl, rfl, by rw [ht]; exact hP9, va_K.moved hW.alike hK, hD9⟩, hS9.F ht⟩) hS9.2.2 dX0_degrees_23
  · replace h := sf_t c1 h
    refine lv_ldc2 (v := -1) hx hb hown kc63 dX0_degrees_9 ?_
    refine lv_goto (tgt := 23) hx hb dX0_degrees_12 (by decide) ?_
    have hP9 := hP
    have hD9 := hD
    have hS9 := hS
    subst hQ
    cases h
    exact W.lret hx hb hr (fun t ht hW => ⟨⟨_, (), rfl, rfl, by rw [ht]; exact hP9, va_K.moved hW.alike hK, hD9⟩, hS9.F ht⟩) hS9.2.2 dX0_degrees_23
def fX0_factor (BdegreesSum : Int64) (Vdegrees : Nat → Int32) (Vfactors : Nat → Int32) (Vcount : Int32) : Option (Int32) := (if (lg_cmp BdegreesSum 0) = 0 then bnd1 (fX2_factorUpTo 9999 Vdegrees Vfactors Vcount) (fun r4 => some (r4)) else bnd1 (fX0_degrees BdegreesSum) (fun r2 => bnd1 (fX2_factorUpTo r2 Vdegrees Vfactors Vcount) (fun r3 => some (r3))))
abbrev rmX0_factor : Room := { frames := 1, cells := 0, slots := 0, locals := 25 }
set_option maxHeartbeats 4000000 in
set_option maxRecDepth 100000 in
theorem met_X0_factor (l : Launch) (D : va_G) (k : Nat → ClassId)  (aB : Nat → Nat) (aV : Nat → Nat) (sz : Nat) (Bslopes : Nat → Int64) (Bcontributions : Nat → Int64) (Bvariance : Int64) (BdegreesSum : Int64) (Vdegrees : Nat → Int32) (Vfactors : Nat → Int32) (Vcount : Int32)  (r : Int32) (h : fX0_factor BdegreesSum Vdegrees Vfactors Vcount = some r) : Met l yX0_factor wsX0_factor rmX0_factor (va_Pc [.ref (aB 0), .ref (aV 0)] (PreW D k ((wB k aB Bslopes Bcontributions Bvariance BdegreesSum) ++ (wV k aV Vdegrees Vfactors Vcount)) sz)) (va_Qi (fun r9 (_ : Unit) => r9 = r) (fun _ t => PostW D k (va_A ((wB k aB Bslopes Bcontributions Bvariance BdegreesSum) ++ (wV k aV Vdegrees Vfactors Vcount)) sz) ((wB k aB Bslopes Bcontributions Bvariance BdegreesSum) ++ (wV k aV Vdegrees Vfactors Vcount)) t) (va_A ((wB k aB Bslopes Bcontributions Bvariance BdegreesSum) ++ (wV k aV Vdegrees Vfactors Vcount)) sz)) 0 0 (va_A ((wB k aB Bslopes Bcontributions Bvariance BdegreesSum) ++ (wV k aV Vdegrees Vfactors Vcount)) sz) := by
  refine Met.ofW (cc := cX0_factor) (maxL := 2) (ret := (some .int)) (by decide) rfl ?_
  intro p e s m args below meth c s₁ B hml hv
  obtain ⟨hav, hsz, hP, hK, hD0⟩ := hv
  have hx := B.exec
  have hb := B.bytes
  have hr := B.returns
  have hts := atoms_spec (ws := wsX0_factor) B.pre
  have hown : s.vm.findClass RX0 = some m.cls := findClass_of_methodNamed B.named
  have hlocks := B.notSynchronized
  subst hsz
  have hD := hD0.self (sz := s.heap.size)
  clear hD0
  generalize hAe : va_A ((wB k aB Bslopes Bcontributions Bvariance BdegreesSum) ++ (wV k aV Vdegrees Vfactors Vcount)) s.heap.size = A at hD ⊢
  have hA : ∀ q : Nat, s.heap.size ≤ q → A q := fun q h => by rw [← hAe]; exact Or.inr h
  have hS : va_S A s.heap s.heap [] := va_S.rf
  have hl := lv_entry ([.ref (aB 0), .ref (aV 0)]) (n := 2) (Nat.le_of_ble_eq_true rfl)
  rw [show entryFrame m args 2 = entryFrame m ([.ref (aB 0), .ref (aV 0)] : List Value).toArray 2 from by rw [hav], lg_entry_eq]
  generalize (lg_sl ([.ref (aB 0), .ref (aV 0)]) ++ List.replicate (2 - (lg_sl ([.ref (aB 0), .ref (aV 0)])).length) Slot.unset).toArray = ls at hl ⊢
  replace hl : lv_has ls 2 [(0, .ref (aB 0)), (1, .ref (aV 0))] := hl
  have f22 := hts (.fieldLink RX0 22 "UncertainBook$Budget" "degreesSum" "J") (by decide +kernel)
  have kc71 := hts (.constantLong RX0 71 (9999)) (by decide +kernel)
  have iX0 : ∀ w ∈ u_ws RX0 TX0 4, w ∈ wsX0_factor := by decide +kernel
  refine w_q (fun Q hQ => ?_)
  unfold fX0_factor at h
  show W p l e rmX0_factor s m args below meth c s.heap [] 0 0 Q (F0 m 0 ls [])
  suffices main : ∀ (H : Heap) (locs : List Loc) (ls : Array Slot), va_P D vwCl ((wB k aB Bslopes Bcontributions Bvariance BdegreesSum) ++ (wV k aV Vdegrees Vfactors Vcount)) H → va_D A ((wB k aB Bslopes Bcontributions Bvariance BdegreesSum) ++ (wV k aV Vdegrees Vfactors Vcount)) → va_S A s.heap H locs → lv_has ls 2 [(0, .ref (aB 0)), (1, .ref (aV 0))] → W p l e rmX0_factor s m args below meth c H locs 0 0 Q (F0 m 0 ls []) from main _ _ _ hP hD hS hl
  clear hP hD hS hl ls hAe
  intro H locs ls hP hD hS hl
  refine lv_aload_n hx hb dX0_factor_0 rfl (lv_at hl 1 rfl) ?_
  refine lv_aload_n hx hb dX0_factor_1 rfl (lv_at hl 0 rfl) ?_
  refine va_get (D := D) (ci := 0) (v := .long BdegreesSum) (C := RX0) (T := TX0) (N := 4) hx hb hts iX0 hown hK hP 0 rfl rfl 3 (by decide) f22 (fun _ h9 => h9) rfl dX0_factor_2 ?_
  refine lv_lconst (v := 0) hx hb dX0_factor_5 (by decide) ?_
  refine W.lcmp hx hb dX0_factor_6 ?_
  refine lv_if_ne (tgt := 16) hx hb dX0_factor_7 (by decide) (fun c1 => ?_) (fun c1 => ?_)
  · replace h := sf_f c1 h
    refine lv_aload_n hx hb dX0_factor_16 rfl (lv_at hl 0 rfl) ?_
    obtain ⟨r2, hc2, h⟩ := bnd1_inv h
    have hPc := hP.sub (ws' := (wB k aB Bslopes Bcontributions Bvariance BdegreesSum)) [0, 1, 2] rfl
    have hDc := hD.sub (ws' := (wB k aB Bslopes Bcontributions Bvariance BdegreesSum)) [0, 1, 2] rfl rfl
    have hFc := va_free (wc := (wB k aB Bslopes Bcontributions Bvariance BdegreesSum)) hD hS hA [0, 1, 2] rfl
    refine xc_l (va_runV (As := []) (rest := [.ref (aV 0)]) ⟨hx, hb, hml, hown, hts⟩ (met_X0_degrees l D k  aB H.size Bslopes Bcontributions Bvariance BdegreesSum r2 hc2) (cwV 0 hts gX0_factor_X0_degrees rfl rfl rfl (by decide +kernel) ⟨Nat.le_of_ble_eq_true rfl, Nat.le_of_ble_eq_true rfl⟩) ⟨pw_blind, va_recv hK hPc (ci := 0) (q0 := 0) rfl rfl, pw_start hPc hK hDc⟩ rfl rfl hl.1 rfl (lv_room (Nat.le_of_ble_eq_true rfl)) dX0_factor_17 ⟨Nat.zero_le _, Nat.zero_le _⟩) hS hFc (fun H1 locs hP1 hD1 hk1 hS => ?_)
    obtain ⟨hP, hD⟩ := vj (ws' := ((wB k aB Bslopes Bcontributions Bvariance BdegreesSum) ++ (wV k aV Vdegrees Vfactors Vcount))) (w1 := (wB k aB Bslopes Bcontributions Bvariance BdegreesSum)) hP hD [0, 1, 2] [3, 4, 5] [3, 4, 5, 0, 1, 2] rfl rfl rfl rfl rfl hk1 hFc hP1 hD1
    clear hP1 hD1 hk1 hFc
    generalize H1 = H at hP hS ⊢
    obtain ⟨r3, hc3, h⟩ := bnd1_inv h
    have hPc := hP.sub (ws' := (wV k aV Vdegrees Vfactors Vcount)) [3, 4, 5] rfl
    have hDc := hD.sub (ws' := (wV k aV Vdegrees Vfactors Vcount)) [3, 4, 5] rfl rfl
    have hFc := va_free (wc := (wV k aV Vdegrees Vfactors Vcount)) hD hS hA [3, 4, 5] rfl
    refine xc_i (va_runV (As := [.long r2]) (rest := []) ⟨hx, hb, hml, hown, hts⟩ (met_X2_factorUpTo l D k  aV H.size Vdegrees Vfactors Vcount r2 r3 hc3) (cwV 1 hts gX0_factor_X2_factorUpTo rfl rfl rfl (by decide +kernel) ⟨Nat.le_of_ble_eq_true rfl, Nat.le_of_ble_eq_true rfl⟩) ⟨pw_blind, va_recv hK hPc (ci := 2) (q0 := 0) rfl rfl, pw_start hPc hK hDc⟩ rfl rfl hl.1 rfl (lv_room (Nat.le_of_ble_eq_true rfl)) dX0_factor_20 ⟨Nat.zero_le _, Nat.zero_le _⟩) hS hFc (fun H1 locs hP1 hD1 hk1 hS => ?_)
    obtain ⟨hP, hD⟩ := vj (ws' := ((wB k aB Bslopes Bcontributions Bvariance BdegreesSum) ++ (wV k aV Vdegrees Vfactors Vcount))) (w1 := (wV k aV Vdegrees Vfactors Vcount)) hP hD [3, 4, 5] [0, 1, 2] [0, 1, 2, 3, 4, 5] rfl rfl rfl rfl rfl hk1 hFc hP1 hD1
    clear hP1 hD1 hk1 hFc
    generalize H1 = H at hP hS ⊢
    have hP9 := hP
    have hD9 := hD
    have hS9 := hS
    subst hQ
    cases h
    exact W.iret hx hb hr (fun t ht hW => ⟨⟨_, (), rfl, rfl, by rw [ht]; exact hP9, va_K.moved hW.alike hK, hD9⟩, hS9.F ht⟩) hS9.2.2 dX0_factor_23
  · replace h := sf_t c1 h
    refine lv_ldc2 (v := 9999) hx hb hown kc71 dX0_factor_10 ?_
    refine lv_goto (tgt := 20) hx hb dX0_factor_13 (by decide) ?_
    obtain ⟨r4, hc4, h⟩ := bnd1_inv h
    have hPc := hP.sub (ws' := (wV k aV Vdegrees Vfactors Vcount)) [3, 4, 5] rfl
    have hDc := hD.sub (ws' := (wV k aV Vdegrees Vfactors Vcount)) [3, 4, 5] rfl rfl
    have hFc := va_free (wc := (wV k aV Vdegrees Vfactors Vcount)) hD hS hA [3, 4, 5] rfl
    refine xc_i (va_runV (As := [.long 9999]) (rest := []) ⟨hx, hb, hml, hown, hts⟩ (met_X2_factorUpTo l D k  aV H.size Vdegrees Vfactors Vcount 9999 r4 hc4) (cwV 1 hts gX0_factor_X2_factorUpTo rfl rfl rfl (by decide +kernel) ⟨Nat.le_of_ble_eq_true rfl, Nat.le_of_ble_eq_true rfl⟩) ⟨pw_blind, va_recv hK hPc (ci := 2) (q0 := 0) rfl rfl, pw_start hPc hK hDc⟩ rfl rfl hl.1 rfl (lv_room (Nat.le_of_ble_eq_true rfl)) dX0_factor_20 ⟨Nat.zero_le _, Nat.zero_le _⟩) hS hFc (fun H1 locs hP1 hD1 hk1 hS => ?_)
    obtain ⟨hP, hD⟩ := vj (ws' := ((wB k aB Bslopes Bcontributions Bvariance BdegreesSum) ++ (wV k aV Vdegrees Vfactors Vcount))) (w1 := (wV k aV Vdegrees Vfactors Vcount)) hP hD [3, 4, 5] [0, 1, 2] [0, 1, 2, 3, 4, 5] rfl rfl rfl rfl rfl hk1 hFc hP1 hD1
    clear hP1 hD1 hk1 hFc
    generalize H1 = H at hP hS ⊢
    have hP9 := hP
    have hD9 := hD
    have hS9 := hS
    subst hQ
    cases h
    exact W.iret hx hb hr (fun t ht hW => ⟨⟨_, (), rfl, rfl, by rw [ht]; exact hP9, va_K.moved hW.alike hK, hD9⟩, hS9.F ht⟩) hS9.2.2 dX0_factor_23
def fX0_statedDoubt (Bvariance : Int64) (BdegreesSum : Int64) (Vdegrees : Nat → Int32) (Vfactors : Nat → Int32) (Vcount : Int32) : Option (Int64) := bnd1 (fX0_doubt Bvariance) (fun r1 => bnd1 (fX0_factor BdegreesSum Vdegrees Vfactors Vcount) (fun r2 => (if (lg_cmp r1 ((-1))) = 0 then some ((-1)) else (if r2 = ((-1)) then some ((-1)) else some ((r1 * r2.toInt64) / 100)))))
abbrev rmX0_statedDoubt : Room := { frames := 2, cells := 0, slots := 0, locals := 46 }
set_option maxHeartbeats 4000000 in
set_option maxRecDepth 100000 in
theorem met_X0_statedDoubt (l : Launch) (D : va_G) (k : Nat → ClassId)  (aB : Nat → Nat) (aV : Nat → Nat) (sz : Nat) (Bslopes : Nat → Int64) (Bcontributions : Nat → Int64) (Bvariance : Int64) (BdegreesSum : Int64) (Vdegrees : Nat → Int32) (Vfactors : Nat → Int32) (Vcount : Int32)  (r : Int64) (h : fX0_statedDoubt Bvariance BdegreesSum Vdegrees Vfactors Vcount = some r) : Met l yX0_statedDoubt wsX0_statedDoubt rmX0_statedDoubt (va_Pc [.ref (aB 0), .ref (aV 0)] (PreW D k ((wB k aB Bslopes Bcontributions Bvariance BdegreesSum) ++ (wV k aV Vdegrees Vfactors Vcount)) sz)) (va_Ql (fun r9 (_ : Unit) => r9 = r) (fun _ t => PostW D k (va_A ((wB k aB Bslopes Bcontributions Bvariance BdegreesSum) ++ (wV k aV Vdegrees Vfactors Vcount)) sz) ((wB k aB Bslopes Bcontributions Bvariance BdegreesSum) ++ (wV k aV Vdegrees Vfactors Vcount)) t) (va_A ((wB k aB Bslopes Bcontributions Bvariance BdegreesSum) ++ (wV k aV Vdegrees Vfactors Vcount)) sz)) 0 0 (va_A ((wB k aB Bslopes Bcontributions Bvariance BdegreesSum) ++ (wV k aV Vdegrees Vfactors Vcount)) sz) := by
  refine Met.ofW (cc := cX0_statedDoubt) (maxL := 5) (ret := (some .long)) (by decide) rfl ?_
  intro p e s m args below meth c s₁ B hml hv
  obtain ⟨hav, hsz, hP, hK, hD0⟩ := hv
  have hx := B.exec
  have hb := B.bytes
  have hr := B.returns
  have hts := atoms_spec (ws := wsX0_statedDoubt) B.pre
  have hown : s.vm.findClass RX0 = some m.cls := findClass_of_methodNamed B.named
  have hlocks := B.notSynchronized
  subst hsz
  have hD := hD0.self (sz := s.heap.size)
  clear hD0
  generalize hAe : va_A ((wB k aB Bslopes Bcontributions Bvariance BdegreesSum) ++ (wV k aV Vdegrees Vfactors Vcount)) s.heap.size = A at hD ⊢
  have hA : ∀ q : Nat, s.heap.size ≤ q → A q := fun q h => by rw [← hAe]; exact Or.inr h
  have hS : va_S A s.heap s.heap [] := va_S.rf
  have hl := lv_entry ([.ref (aB 0), .ref (aV 0)]) (n := 5) (Nat.le_of_ble_eq_true rfl)
  rw [show entryFrame m args 5 = entryFrame m ([.ref (aB 0), .ref (aV 0)] : List Value).toArray 5 from by rw [hav], lg_entry_eq]
  generalize (lg_sl ([.ref (aB 0), .ref (aV 0)]) ++ List.replicate (5 - (lg_sl ([.ref (aB 0), .ref (aV 0)])).length) Slot.unset).toArray = ls at hl ⊢
  replace hl : lv_has ls 5 [(0, .ref (aB 0)), (1, .ref (aV 0))] := hl
  have kc58 := hts (.constantLong RX0 58 (100)) (by decide +kernel)
  have kc63 := hts (.constantLong RX0 63 (-1)) (by decide +kernel)
  refine w_q (fun Q hQ => ?_)
  unfold fX0_statedDoubt at h
  show W p l e rmX0_statedDoubt s m args below meth c s.heap [] 0 0 Q (F0 m 0 ls [])
  suffices main : ∀ (H : Heap) (locs : List Loc) (ls : Array Slot), va_P D vwCl ((wB k aB Bslopes Bcontributions Bvariance BdegreesSum) ++ (wV k aV Vdegrees Vfactors Vcount)) H → va_D A ((wB k aB Bslopes Bcontributions Bvariance BdegreesSum) ++ (wV k aV Vdegrees Vfactors Vcount)) → va_S A s.heap H locs → lv_has ls 5 [(0, .ref (aB 0)), (1, .ref (aV 0))] → W p l e rmX0_statedDoubt s m args below meth c H locs 0 0 Q (F0 m 0 ls []) from main _ _ _ hP hD hS hl
  clear hP hD hS hl ls hAe
  intro H locs ls hP hD hS hl
  refine lv_aload_n hx hb dX0_statedDoubt_0 rfl (lv_at hl 0 rfl) ?_
  obtain ⟨r1, hc1, h⟩ := bnd1_inv h
  have hPc := hP.sub (ws' := (wB k aB Bslopes Bcontributions Bvariance BdegreesSum)) [0, 1, 2] rfl
  have hDc := hD.sub (ws' := (wB k aB Bslopes Bcontributions Bvariance BdegreesSum)) [0, 1, 2] rfl rfl
  have hFc := va_free (wc := (wB k aB Bslopes Bcontributions Bvariance BdegreesSum)) hD hS hA [0, 1, 2] rfl
  refine xc_l (va_runV (As := []) (rest := []) ⟨hx, hb, hml, hown, hts⟩ (met_X0_doubt l D k  aB H.size Bslopes Bcontributions Bvariance BdegreesSum r1 hc1) (cwV 0 hts gX0_statedDoubt_X0_doubt rfl rfl rfl (by decide +kernel) ⟨Nat.le_of_ble_eq_true rfl, Nat.le_of_ble_eq_true rfl⟩) ⟨pw_blind, va_recv hK hPc (ci := 0) (q0 := 0) rfl rfl, pw_start hPc hK hDc⟩ rfl rfl hl.1 rfl (lv_room (Nat.le_of_ble_eq_true rfl)) dX0_statedDoubt_1 ⟨Nat.zero_le _, Nat.zero_le _⟩) hS hFc (fun H1 locs hP1 hD1 hk1 hS => ?_)
  obtain ⟨hP, hD⟩ := vj (ws' := ((wB k aB Bslopes Bcontributions Bvariance BdegreesSum) ++ (wV k aV Vdegrees Vfactors Vcount))) (w1 := (wB k aB Bslopes Bcontributions Bvariance BdegreesSum)) hP hD [0, 1, 2] [3, 4, 5] [3, 4, 5, 0, 1, 2] rfl rfl rfl rfl rfl hk1 hFc hP1 hD1
  clear hP1 hD1 hk1 hFc
  generalize H1 = H at hP hS ⊢
  refine lv_lstore_n (lv' := [(2, .long r1), (0, .ref (aB 0)), (1, .ref (aV 0))]) hx hb dX0_statedDoubt_4 rfl hl (by decide) rfl (fun ls hl => ?_)
  refine lv_aload_n hx hb dX0_statedDoubt_5 rfl (lv_at hl 1 rfl) ?_
  refine lv_aload_n hx hb dX0_statedDoubt_6 rfl (lv_at hl 2 rfl) ?_
  obtain ⟨r2, hc2, h⟩ := bnd1_inv h
  have hFc := va_free (wc := ((wB k aB Bslopes Bcontributions Bvariance BdegreesSum) ++ (wV k aV Vdegrees Vfactors Vcount))) hD hS hA [0, 1, 2, 3, 4, 5] rfl
  refine xc_i (va_runV (As := [.ref (aV 0)]) (rest := []) ⟨hx, hb, hml, hown, hts⟩ (met_X0_factor l D k  aB aV H.size Bslopes Bcontributions Bvariance BdegreesSum Vdegrees Vfactors Vcount r2 hc2) (cwV 1 hts gX0_statedDoubt_X0_factor rfl rfl rfl (by decide +kernel) ⟨Nat.le_of_ble_eq_true rfl, Nat.le_of_ble_eq_true rfl⟩) ⟨pw_blind, va_recv hK hP (ci := 0) (q0 := 0) rfl rfl, pw_start hP hK hD⟩ rfl rfl hl.1 rfl (lv_room (Nat.le_of_ble_eq_true rfl)) dX0_statedDoubt_7 ⟨Nat.zero_le _, Nat.zero_le _⟩) hS hFc (fun H1 locs hP1 hD1 hk1 hS => ?_)
  obtain ⟨hP, hD⟩ := vj_all hFc hP1 hD1
  clear hP1 hD1 hk1 hFc
  generalize H1 = H at hP hS ⊢
  refine lv_istore (lv' := [(4, .int r2), (2, .long r1), (0, .ref (aB 0)), (1, .ref (aV 0))]) hx hb dX0_statedDoubt_10 hl (by decide) rfl (fun ls hl => ?_)
  refine lv_lload_n hx hb dX0_statedDoubt_12 rfl (lv_at hl 1 rfl) ?_
  refine lv_ldc2 (v := -1) hx hb hown kc63 dX0_statedDoubt_13 ?_
  refine W.lcmp hx hb dX0_statedDoubt_16 ?_
  refine lv_if_eq (tgt := 26) hx hb dX0_statedDoubt_17 (by decide) (fun c3 => ?_) (fun c3 => ?_)
  · replace h := sf_t c3 h
    refine lv_ldc2 (v := -1) hx hb hown kc63 dX0_statedDoubt_26 ?_
    refine lv_goto (tgt := 41) hx hb dX0_statedDoubt_29 (by decide) ?_
    have hP9 := hP
    have hD9 := hD
    have hS9 := hS
    subst hQ
    cases h
    exact W.lret hx hb hr (fun t ht hW => ⟨⟨_, (), rfl, rfl, by rw [ht]; exact hP9, va_K.moved hW.alike hK, hD9⟩, hS9.F ht⟩) hS9.2.2 dX0_statedDoubt_41
  · replace h := sf_f c3 h
    refine lv_iload hx hb dX0_statedDoubt_20 (lv_at hl 0 rfl) ?_
    refine lv_iconst (v := -1) hx hb dX0_statedDoubt_22 (by decide) ?_
    refine lv_icmp_ne (tgt := 32) hx hb dX0_statedDoubt_23 (by decide) (fun c4 => ?_) (fun c4 => ?_)
    · replace h := sf_f c4 h
      refine lv_lload_n hx hb dX0_statedDoubt_32 rfl (lv_at hl 1 rfl) ?_
      refine lv_iload hx hb dX0_statedDoubt_33 (lv_at hl 0 rfl) ?_
      refine lv_i2l hx hb dX0_statedDoubt_35 rfl ?_
      refine lv_lmul hx hb dX0_statedDoubt_36 ?_
      refine lv_ldc2 (v := 100) hx hb hown kc58 dX0_statedDoubt_37 ?_
      refine lv_ldiv hx hb dX0_statedDoubt_40 (by decide) ?_
      have hP9 := hP
      have hD9 := hD
      have hS9 := hS
      subst hQ
      cases h
      exact W.lret hx hb hr (fun t ht hW => ⟨⟨_, (), rfl, rfl, by rw [ht]; exact hP9, va_K.moved hW.alike hK, hD9⟩, hS9.F ht⟩) hS9.2.2 dX0_statedDoubt_41
    · replace h := sf_t c4 h
      refine lv_ldc2 (v := -1) hx hb hown kc63 dX0_statedDoubt_26 ?_
      refine lv_goto (tgt := 41) hx hb dX0_statedDoubt_29 (by decide) ?_
      have hP9 := hP
      have hD9 := hD
      have hS9 := hS
      subst hQ
      cases h
      exact W.lret hx hb hr (fun t ht hW => ⟨⟨_, (), rfl, rfl, by rw [ht]; exact hP9, va_K.moved hW.alike hK, hD9⟩, hS9.F ht⟩) hS9.2.2 dX0_statedDoubt_41
