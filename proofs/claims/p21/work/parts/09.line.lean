def fX5_signIn (v0 : Int64) (v2 : Int32) : Option (Int32) := some (((jlushr v0 (8 * v2)).toInt32) &&& 255)
abbrev rmX5_signIn : Room := { frames := 0, cells := 0, slots := 0, locals := 0 }
set_option maxHeartbeats 4000000 in
set_option maxRecDepth 100000 in
theorem met_X5_signIn (l : Launch) (D : va_G) (k : Nat → ClassId)   (sz : Nat)  (v0 : Int64) (v2 : Int32) (r : Int32) (h : fX5_signIn v0 v2 = some r) : Met l yX5_signIn wsX5_signIn rmX5_signIn (va_Pc [.long v0, .int v2] (PreW D k ([] : va_W) sz)) (va_Qi (fun r9 (_ : Unit) => r9 = r) (fun _ t => PostW D k (va_A ([] : va_W) sz) ([] : va_W) t) (va_A ([] : va_W) sz)) 0 0 (va_A ([] : va_W) sz) := by
  refine Met.ofW (cc := cX5_signIn) (maxL := 3) (ret := (some .int)) (by decide) rfl ?_
  intro p e s m args below meth c s₁ B hml hv
  obtain ⟨hav, hsz, hP, hK, hD0⟩ := hv
  have hx := B.exec
  have hb := B.bytes
  have hr := B.returns
  have hts := atoms_spec (ws := wsX5_signIn) B.pre
  have hown : s.vm.findClass RX5 = some m.cls := findClass_of_methodNamed B.named
  have hlocks := B.notSynchronized
  subst hsz
  have hD := hD0.self (sz := s.heap.size)
  clear hD0
  generalize hAe : va_A ([] : va_W) s.heap.size = A at hD ⊢
  have hA : ∀ q : Nat, s.heap.size ≤ q → A q := fun q h => by rw [← hAe]; exact Or.inr h
  have hS : va_S A s.heap s.heap [] := va_S.rf
  have hl := lv_entry ([.long v0, .int v2]) (n := 3) (Nat.le_of_ble_eq_true rfl)
  rw [show entryFrame m args 3 = entryFrame m ([.long v0, .int v2] : List Value).toArray 3 from by rw [hav], lg_entry_eq]
  generalize (lg_sl ([.long v0, .int v2]) ++ List.replicate (3 - (lg_sl ([.long v0, .int v2])).length) Slot.unset).toArray = ls at hl ⊢
  replace hl : lv_has ls 3 [(0, .long v0), (2, .int v2)] := hl
  refine w_q (fun Q hQ => ?_)
  unfold fX5_signIn at h
  show W p l e rmX5_signIn s m args below meth c s.heap [] 0 0 Q (F0 m 0 ls [])
  suffices main : ∀ (H : Heap) (locs : List Loc) (ls : Array Slot), va_P D vwCl ([] : va_W) H → va_D A ([] : va_W) → va_S A s.heap H locs → lv_has ls 3 [(0, .long v0), (2, .int v2)] → W p l e rmX5_signIn s m args below meth c H locs 0 0 Q (F0 m 0 ls []) from main _ _ _ hP hD hS hl
  clear hP hD hS hl ls hAe
  intro H locs ls hP hD hS hl
  refine lv_lload_n hx hb dX5_signIn_0 rfl (lv_at hl 0 rfl) ?_
  refine lv_bipush (v := 8) hx hb dX5_signIn_1 (by decide) ?_
  refine lv_iload_n hx hb dX5_signIn_3 rfl (lv_at hl 1 rfl) ?_
  refine lv_imul hx hb dX5_signIn_4 ?_
  refine lv_lushr (v := jlushr v0 (8 * v2)) hx hb dX5_signIn_5 rfl ?_
  refine lv_l2i hx hb dX5_signIn_6 rfl ?_
  refine lv_sipush (v := 255) hx hb dX5_signIn_7 (by decide) ?_
  refine lv_iand hx hb dX5_signIn_10 ?_
  have hP9 := hP
  have hD9 := hD
  have hS9 := hS
  subst hQ
  cases h
  exact W.iret hx hb hr (fun t ht hW => ⟨⟨_, (), rfl, rfl, by rw [ht]; exact hP9, va_K.moved hW.alike hK, hD9⟩, hS9.F ht⟩) hS9.2.2 dX5_signIn_11
def LX5_countSigns_2 (v0 : Int64) (E34 : Option (Int32)) (E42 : Int32 → Option (Int32)) : Nat → Int32 → Option (Int32)
  | 0, _ => none
  | fuel + 1, v2 => (if 8 ≤ v2 then E42 v2 else bnd1 (fX5_signIn v0 v2) (fun r2 => (if r2 = 0 then E42 v2 else bnd1 (fX5_signIn v0 v2) (fun r4 => (if r4 < 32 then E34 else (if r4 ≤ 126 then LX5_countSigns_2 v0 E34 E42 fuel (v2 + 1) else E34))))))
def BX5_countSigns_64 (v0 : Int64)  (v2 : Int32) (s0 : Int32) : Option (Int32) := (if s0 = 0 then some ((-1)) else some (v2))
def BX5_countSigns_59 (v0 : Int64)  (v2 : Int32) : Option (Int32) := BX5_countSigns_64 v0 v2 1
def BX5_countSigns_42 (v0 : Int64)  (v2 : Int32) : Option (Int32) := (if v2 = 8 then BX5_countSigns_59 v0 v2 else (if (lg_cmp (jlushr v0 (8 * v2)) 0) = 0 then BX5_countSigns_59 v0 v2 else BX5_countSigns_64 v0 v2 0))
def fX5_countSigns (v0 : Int64) : Option (Int32) := LX5_countSigns_2 v0 (some ((-1))) (fun (v2 : Int32) => BX5_countSigns_42 v0 v2) 1000 0
abbrev rmX5_countSigns : Room := { frames := 1, cells := 0, slots := 0, locals := 22 }
set_option maxHeartbeats 4000000 in
set_option maxRecDepth 100000 in
theorem met_X5_countSigns (l : Launch) (D : va_G) (k : Nat → ClassId)   (sz : Nat)  (v0 : Int64) (r : Int32) (h : fX5_countSigns v0 = some r) : Met l yX5_countSigns wsX5_countSigns rmX5_countSigns (va_Pc [.long v0] (PreW D k ([] : va_W) sz)) (va_Qi (fun r9 (_ : Unit) => r9 = r) (fun _ t => PostW D k (va_A ([] : va_W) sz) ([] : va_W) t) (va_A ([] : va_W) sz)) 0 0 (va_A ([] : va_W) sz) := by
  refine Met.ofW (cc := cX5_countSigns) (maxL := 4) (ret := (some .int)) (by decide) rfl ?_
  intro p e s m args below meth c s₁ B hml hv
  obtain ⟨hav, hsz, hP, hK, hD0⟩ := hv
  have hx := B.exec
  have hb := B.bytes
  have hr := B.returns
  have hts := atoms_spec (ws := wsX5_countSigns) B.pre
  have hown : s.vm.findClass RX5 = some m.cls := findClass_of_methodNamed B.named
  have hlocks := B.notSynchronized
  subst hsz
  have hD := hD0.self (sz := s.heap.size)
  clear hD0
  generalize hAe : va_A ([] : va_W) s.heap.size = A at hD ⊢
  have hA : ∀ q : Nat, s.heap.size ≤ q → A q := fun q h => by rw [← hAe]; exact Or.inr h
  have hS : va_S A s.heap s.heap [] := va_S.rf
  have hl := lv_entry ([.long v0]) (n := 4) (Nat.le_of_ble_eq_true rfl)
  rw [show entryFrame m args 4 = entryFrame m ([.long v0] : List Value).toArray 4 from by rw [hav], lg_entry_eq]
  generalize (lg_sl ([.long v0]) ++ List.replicate (4 - (lg_sl ([.long v0])).length) Slot.unset).toArray = ls at hl ⊢
  replace hl : lv_has ls 4 [(0, .long v0)] := hl
  refine w_q (fun Q hQ => ?_)
  unfold fX5_countSigns at h
  show W p l e rmX5_countSigns s m args below meth c s.heap [] 0 0 Q (F0 m 0 ls [])
  have LH_2 : ∀ (E34 : Option (Int32)) (hE34 : E34 = some r → ∀ (H : Heap) (locs : List Loc) (ls : Array Slot), va_P D vwCl ([] : va_W) H → va_D A ([] : va_W) → va_S A s.heap H locs → lv_has ls 4 [] → W p l e rmX5_countSigns s m args below meth c H locs 0 0 Q (F0 m 34 ls [])) (E42 : Int32 → Option (Int32)) (hE42 : ∀ (v2 : Int32), E42 v2 = some r → ∀ (H : Heap) (locs : List Loc) (ls : Array Slot), va_P D vwCl ([] : va_W) H → va_D A ([] : va_W) → va_S A s.heap H locs → lv_has ls 4 [(0, .long v0), (2, .int v2)] → W p l e rmX5_countSigns s m args below meth c H locs 0 0 Q (F0 m 42 ls [])) (n : Nat) (v2 : Int32), LX5_countSigns_2 v0 E34 E42 n v2 = some r → ∀ (H : Heap) (locs : List Loc) (ls : Array Slot), va_P D vwCl ([] : va_W) H → va_D A ([] : va_W) → va_S A s.heap H locs → lv_has ls 4 [(0, .long v0), (2, .int v2)] → W p l e rmX5_countSigns s m args below meth c H locs 0 0 Q (F0 m 2 ls []) := by
    intro E34 hE34 E42 hE42 n
    induction n with
    | zero => intro v2 h; simp [LX5_countSigns_2] at h
    | succ n ih =>
    intro v2 h H locs ls hP hD hS hl
    rw [LX5_countSigns_2] at h
    refine lv_iload_n hx hb dX5_countSigns_2 rfl (lv_at hl 1 rfl) ?_
    refine lv_bipush (v := 8) hx hb dX5_countSigns_3 (by decide) ?_
    refine lv_icmp_ge (tgt := 42) hx hb dX5_countSigns_5 (by decide) (fun c1 => ?_) (fun c1 => ?_)
    · replace h := sf_t c1 h
      exact hE42 _ h _ _ _ hP hD hS (lv_sub hl [0, 1] rfl)
    · replace h := sf_f c1 h
      refine lv_lload_n hx hb dX5_countSigns_8 rfl (lv_at hl 0 rfl) ?_
      refine lv_iload_n hx hb dX5_countSigns_9 rfl (lv_at hl 1 rfl) ?_
      obtain ⟨r2, hc2, h⟩ := bnd1_inv h
      have hFc := va_free (wc := ([] : va_W)) hD hS hA [] rfl
      refine xc_i (va_runS (As := [.long v0, .int v2]) (rest := []) ⟨hx, hb, hml, hown, hts⟩ (met_X5_signIn l D k  H.size v0 v2 r2 hc2) (va_cwS 2 hts gX5_countSigns_X5_signIn rfl rfl rfl (by decide +kernel) ⟨Nat.le_of_ble_eq_true rfl, Nat.le_of_ble_eq_true rfl⟩) ⟨pw_blind, pw_start hP hK hD⟩ rfl rfl hl.1 rfl (lv_room (Nat.le_of_ble_eq_true rfl)) dX5_countSigns_10 ⟨Nat.zero_le _, Nat.zero_le _⟩) hS hFc (fun H1 locs hP1 hD1 hk1 hS => ?_)
      obtain ⟨hP, hD⟩ := vj_all hFc hP1 hD1
      clear hP1 hD1 hk1 hFc
      generalize H1 = H at hP hS ⊢
      refine lv_if_eq (tgt := 42) hx hb dX5_countSigns_13 (by decide) (fun c3 => ?_) (fun c3 => ?_)
      · replace h := sf_t c3 h
        exact hE42 _ h _ _ _ hP hD hS (lv_sub hl [0, 1] rfl)
      · replace h := sf_f c3 h
        refine lv_lload_n hx hb dX5_countSigns_16 rfl (lv_at hl 0 rfl) ?_
        refine lv_iload_n hx hb dX5_countSigns_17 rfl (lv_at hl 1 rfl) ?_
        obtain ⟨r4, hc4, h⟩ := bnd1_inv h
        have hFc := va_free (wc := ([] : va_W)) hD hS hA [] rfl
        refine xc_i (va_runS (As := [.long v0, .int v2]) (rest := []) ⟨hx, hb, hml, hown, hts⟩ (met_X5_signIn l D k  H.size v0 v2 r4 hc4) (va_cwS 2 hts gX5_countSigns_X5_signIn rfl rfl rfl (by decide +kernel) ⟨Nat.le_of_ble_eq_true rfl, Nat.le_of_ble_eq_true rfl⟩) ⟨pw_blind, pw_start hP hK hD⟩ rfl rfl hl.1 rfl (lv_room (Nat.le_of_ble_eq_true rfl)) dX5_countSigns_18 ⟨Nat.zero_le _, Nat.zero_le _⟩) hS hFc (fun H1 locs hP1 hD1 hk1 hS => ?_)
        obtain ⟨hP, hD⟩ := vj_all hFc hP1 hD1
        clear hP1 hD1 hk1 hFc
        generalize H1 = H at hP hS ⊢
        refine lv_istore_n (lv' := [(3, .int r4), (0, .long v0), (2, .int v2)]) hx hb dX5_countSigns_21 rfl hl (by decide) rfl (fun ls hl => ?_)
        refine lv_iload_n hx hb dX5_countSigns_22 rfl (lv_at hl 0 rfl) ?_
        refine lv_bipush (v := 32) hx hb dX5_countSigns_23 (by decide) ?_
        refine lv_icmp_lt (tgt := 34) hx hb dX5_countSigns_25 (by decide) (fun c5 => ?_) (fun c5 => ?_)
        · replace h := sf_t c5 h
          exact hE34  h _ _ _ hP hD hS (lv_sub hl [] rfl)
        · replace h := sf_f c5 h
          refine lv_iload_n hx hb dX5_countSigns_28 rfl (lv_at hl 0 rfl) ?_
          refine lv_bipush (v := 126) hx hb dX5_countSigns_29 (by decide) ?_
          refine lv_icmp_le (tgt := 36) hx hb dX5_countSigns_31 (by decide) (fun c6 => ?_) (fun c6 => ?_)
          · replace h := sf_t c6 h
            refine lv_iinc (v := v2 + 1) (lv' := [(2, .int (v2 + 1)), (3, .int r4), (0, .long v0)]) hx hb dX5_countSigns_36 hl (k := 2) rfl rfl (by decide) rfl (fun ls hl => ?_)
            refine lv_goto (tgt := 2) hx hb dX5_countSigns_39 (by decide) ?_
            exact ih _ h _ _ _ hP hD hS (lv_sub hl [2, 0] rfl)
          · replace h := sf_f c6 h
            exact hE34  h _ _ _ hP hD hS (lv_sub hl [] rfl)
  have BH_64 : ∀ (v2 : Int32) (s0 : Int32), BX5_countSigns_64 v0 v2 s0 = some r → ∀ (H : Heap) (locs : List Loc) (ls : Array Slot), va_P D vwCl ([] : va_W) H → va_D A ([] : va_W) → va_S A s.heap H locs → lv_has ls 4 [(2, .int v2)] → W p l e rmX5_countSigns s m args below meth c H locs 0 0 Q (F0 m 64 ls [.int s0]) := by
    intro  v2 s0 h H locs ls hP hD hS hl
    unfold BX5_countSigns_64 at h
    refine lv_istore_n (lv' := [(3, .int s0), (2, .int v2)]) hx hb dX5_countSigns_64 rfl hl (by decide) rfl (fun ls hl => ?_)
    refine lv_iload_n hx hb dX5_countSigns_65 rfl (lv_at hl 0 rfl) ?_
    refine lv_if_eq (tgt := 73) hx hb dX5_countSigns_66 (by decide) (fun c8 => ?_) (fun c8 => ?_)
    · replace h := sf_t c8 h
      refine lv_iconst (v := -1) hx hb dX5_countSigns_73 (by decide) ?_
      have hP9 := hP
      have hD9 := hD
      have hS9 := hS
      subst hQ
      cases h
      exact W.iret hx hb hr (fun t ht hW => ⟨⟨_, (), rfl, rfl, by rw [ht]; exact hP9, va_K.moved hW.alike hK, hD9⟩, hS9.F ht⟩) hS9.2.2 dX5_countSigns_74
    · replace h := sf_f c8 h
      refine lv_iload_n hx hb dX5_countSigns_69 rfl (lv_at hl 1 rfl) ?_
      refine lv_goto (tgt := 74) hx hb dX5_countSigns_70 (by decide) ?_
      have hP9 := hP
      have hD9 := hD
      have hS9 := hS
      subst hQ
      cases h
      exact W.iret hx hb hr (fun t ht hW => ⟨⟨_, (), rfl, rfl, by rw [ht]; exact hP9, va_K.moved hW.alike hK, hD9⟩, hS9.F ht⟩) hS9.2.2 dX5_countSigns_74
  have BH_59 : ∀ (v2 : Int32), BX5_countSigns_59 v0 v2 = some r → ∀ (H : Heap) (locs : List Loc) (ls : Array Slot), va_P D vwCl ([] : va_W) H → va_D A ([] : va_W) → va_S A s.heap H locs → lv_has ls 4 [(2, .int v2)] → W p l e rmX5_countSigns s m args below meth c H locs 0 0 Q (F0 m 59 ls []) := by
    intro  v2 h H locs ls hP hD hS hl
    unfold BX5_countSigns_59 at h
    refine lv_iconst (v := 1) hx hb dX5_countSigns_59 (by decide) ?_
    refine lv_goto (tgt := 64) hx hb dX5_countSigns_60 (by decide) ?_
    exact BH_64  _ _ h _ _ _ hP hD hS (lv_sub hl [0] rfl)
  have BH_42 : ∀ (v2 : Int32), BX5_countSigns_42 v0 v2 = some r → ∀ (H : Heap) (locs : List Loc) (ls : Array Slot), va_P D vwCl ([] : va_W) H → va_D A ([] : va_W) → va_S A s.heap H locs → lv_has ls 4 [(0, .long v0), (2, .int v2)] → W p l e rmX5_countSigns s m args below meth c H locs 0 0 Q (F0 m 42 ls []) := by
    intro  v2 h H locs ls hP hD hS hl
    unfold BX5_countSigns_42 at h
    refine lv_iload_n hx hb dX5_countSigns_42 rfl (lv_at hl 1 rfl) ?_
    refine lv_bipush (v := 8) hx hb dX5_countSigns_43 (by decide) ?_
    refine lv_icmp_eq (tgt := 59) hx hb dX5_countSigns_45 (by decide) (fun c7 => ?_) (fun c7 => ?_)
    · replace h := sf_t c7 h
      exact BH_59  _ h _ _ _ hP hD hS (lv_sub hl [1] rfl)
    · replace h := sf_f c7 h
      refine lv_lload_n hx hb dX5_countSigns_48 rfl (lv_at hl 0 rfl) ?_
      refine lv_bipush (v := 8) hx hb dX5_countSigns_49 (by decide) ?_
      refine lv_iload_n hx hb dX5_countSigns_51 rfl (lv_at hl 1 rfl) ?_
      refine lv_imul hx hb dX5_countSigns_52 ?_
      refine lv_lushr (v := jlushr v0 (8 * v2)) hx hb dX5_countSigns_53 rfl ?_
      refine lv_lconst (v := 0) hx hb dX5_countSigns_54 (by decide) ?_
      refine W.lcmp hx hb dX5_countSigns_55 ?_
      refine lv_if_ne (tgt := 63) hx hb dX5_countSigns_56 (by decide) (fun c9 => ?_) (fun c9 => ?_)
      · replace h := sf_f c9 h
        refine lv_iconst (v := 0) hx hb dX5_countSigns_63 (by decide) ?_
        exact BH_64  _ _ h _ _ _ hP hD hS (lv_sub hl [1] rfl)
      · replace h := sf_t c9 h
        exact BH_59  _ h _ _ _ hP hD hS (lv_sub hl [1] rfl)
  suffices main : ∀ (H : Heap) (locs : List Loc) (ls : Array Slot), va_P D vwCl ([] : va_W) H → va_D A ([] : va_W) → va_S A s.heap H locs → lv_has ls 4 [(0, .long v0)] → W p l e rmX5_countSigns s m args below meth c H locs 0 0 Q (F0 m 0 ls []) from main _ _ _ hP hD hS hl
  clear hP hD hS hl ls hAe
  intro H locs ls hP hD hS hl
  refine lv_iconst (v := 0) hx hb dX5_countSigns_0 (by decide) ?_
  refine lv_istore_n (lv' := [(2, .int 0), (0, .long v0)]) hx hb dX5_countSigns_1 rfl hl (by decide) rfl (fun ls hl => ?_)
  refine LH_2 _ (fun h H locs ls hP hD hS hl => ?_) _ (fun v2 h H locs ls hP hD hS hl => ?_) _ _ h _ _ _ hP hD hS (lv_sub hl [1, 0] rfl)
  · skip
    refine lv_iconst (v := -1) hx hb dX5_countSigns_34 (by decide) ?_
    have hP9 := hP
    have hD9 := hD
    have hS9 := hS
    subst hQ
    cases h
    exact W.iret hx hb hr (fun t ht hW => ⟨⟨_, (), rfl, rfl, by rw [ht]; exact hP9, va_K.moved hW.alike hK, hD9⟩, hS9.F ht⟩) hS9.2.2 dX5_countSigns_35
  · skip
    exact BH_42  _ h _ _ _ hP hD hS (lv_sub hl [0, 1] rfl)
def LX5_append_3 (v1 : Int64) (v3 : Int32) (E50 : (Nat → Int32) → Int32 → Option ((Nat → Int32) × Int32)) : Nat → Int32 → (Nat → Int32) → Int32 → Option ((Nat → Int32) × Int32)
  | 0, _, _, _ => none
  | fuel + 1, v4, Lsigns, Llength => (if v3 ≤ v4 then E50 Lsigns Llength else (if 60 ≤ Llength then E50 Lsigns Llength else bnd1 (fX5_signIn v1 v4) (fun r3 => gi Llength 60 (LX5_append_3 v1 v3 E50 fuel (v4 + 1) (upd Lsigns (Llength.toNatClampNeg) (vp_nar .char (ji2c r3))) (Llength + 1)))))
def fX5_append (v1 : Int64) (v3 : Int32) (Lsigns : Nat → Int32) (Llength : Int32) : Option ((Nat → Int32) × Int32) := LX5_append_3 v1 v3 (fun (Lsigns : Nat → Int32) (Llength : Int32) => some (Lsigns, Llength)) 1000 0 Lsigns Llength
abbrev rmX5_append : Room := { frames := 1, cells := 0, slots := 0, locals := 22 }
set_option maxHeartbeats 4000000 in
set_option maxRecDepth 100000 in
theorem met_X5_append (l : Launch) (D : va_G) (k : Nat → ClassId)  (aL : Nat → Nat) (sz : Nat) (Lsigns : Nat → Int32) (Llength : Int32) (Lat : Int32) (v1 : Int64) (v3 : Int32) (RLsigns : Nat → Int32) (RLlength : Int32) (h : fX5_append v1 v3 Lsigns Llength = some (RLsigns, RLlength)) : Met l yX5_append wsX5_append rmX5_append (va_Pc [.ref (aL 0), .long v1, .int v3] (PreW D k (wL k aL Lsigns Llength Lat) sz)) (va_Qv (fun _ : Unit => True) (fun _ t => PostW D k (va_A (wL k aL Lsigns Llength Lat) sz) (wL k aL RLsigns RLlength Lat) t) (va_A (wL k aL Lsigns Llength Lat) sz)) 0 0 (va_A (wL k aL Lsigns Llength Lat) sz) := by
  refine Met.ofW (cc := cX5_append) (maxL := 5) (ret := none) (by decide) rfl ?_
  intro p e s m args below meth c s₁ B hml hv
  obtain ⟨hav, hsz, hP, hK, hD0⟩ := hv
  have hx := B.exec
  have hb := B.bytes
  have hr := B.returns
  have hts := atoms_spec (ws := wsX5_append) B.pre
  have hown : s.vm.findClass RX5 = some m.cls := findClass_of_methodNamed B.named
  have hlocks := B.notSynchronized
  subst hsz
  have hD := hD0.self (sz := s.heap.size)
  clear hD0
  generalize hAe : va_A (wL k aL Lsigns Llength Lat) s.heap.size = A at hD ⊢
  have hA : ∀ q : Nat, s.heap.size ≤ q → A q := fun q h => by rw [← hAe]; exact Or.inr h
  have hS : va_S A s.heap s.heap [] := va_S.rf
  have hl := lv_entry ([.ref (aL 0), .long v1, .int v3]) (n := 5) (Nat.le_of_ble_eq_true rfl)
  rw [show entryFrame m args 5 = entryFrame m ([.ref (aL 0), .long v1, .int v3] : List Value).toArray 5 from by rw [hav], lg_entry_eq]
  generalize (lg_sl ([.ref (aL 0), .long v1, .int v3]) ++ List.replicate (5 - (lg_sl ([.ref (aL 0), .long v1, .int v3])).length) Slot.unset).toArray = ls at hl ⊢
  replace hl : lv_has ls 5 [(0, .ref (aL 0)), (1, .long v1), (3, .int v3)] := hl
  have f9 := hts (.fieldLink RX5 9 "UncertainBook$Line" "signs" "[C") (by decide +kernel)
  have f15 := hts (.fieldLink RX5 15 "UncertainBook$Line" "length" "I") (by decide +kernel)
  have iX5 : ∀ w ∈ u_ws RX5 TX5 3, w ∈ wsX5_append := by decide +kernel
  refine w_q (fun Q hQ => ?_)
  unfold fX5_append at h
  show W p l e rmX5_append s m args below meth c s.heap [] 0 0 Q (F0 m 0 ls [])
  have LH_3 : ∀ (E50 : (Nat → Int32) → Int32 → Option ((Nat → Int32) × Int32)) (hE50 : ∀ (Lsigns : Nat → Int32) (Llength : Int32), E50 Lsigns Llength = some (RLsigns, RLlength) → ∀ (H : Heap) (locs : List Loc) (ls : Array Slot), va_P D vwCl (wL k aL Lsigns Llength Lat) H → va_D A (wL k aL Lsigns Llength Lat) → va_S A s.heap H locs → lv_has ls 5 [] → W p l e rmX5_append s m args below meth c H locs 0 0 Q (F0 m 50 ls [])) (n : Nat) (v4 : Int32) (Lsigns : Nat → Int32) (Llength : Int32), LX5_append_3 v1 v3 E50 n v4 Lsigns Llength = some (RLsigns, RLlength) → ∀ (H : Heap) (locs : List Loc) (ls : Array Slot), va_P D vwCl (wL k aL Lsigns Llength Lat) H → va_D A (wL k aL Lsigns Llength Lat) → va_S A s.heap H locs → lv_has ls 5 [(0, .ref (aL 0)), (1, .long v1), (3, .int v3), (4, .int v4)] → W p l e rmX5_append s m args below meth c H locs 0 0 Q (F0 m 3 ls []) := by
    intro E50 hE50 n
    induction n with
    | zero => intro v4 Lsigns Llength h; simp [LX5_append_3] at h
    | succ n ih =>
    intro v4 Lsigns Llength h H locs ls hP hD hS hl
    rw [LX5_append_3] at h
    refine lv_iload hx hb dX5_append_3 (lv_at hl 3 rfl) ?_
    refine lv_iload_n hx hb dX5_append_5 rfl (lv_at hl 2 rfl) ?_
    refine lv_icmp_ge (tgt := 50) hx hb dX5_append_6 (by decide) (fun c1 => ?_) (fun c1 => ?_)
    · replace h := sf_t c1 h
      exact hE50 _ _ h _ _ _ hP hD hS (lv_sub hl [] rfl)
    · replace h := sf_f c1 h
      refine lv_aload_n hx hb dX5_append_9 rfl (lv_at hl 0 rfl) ?_
      refine va_get (D := D) (ci := 5) (v := .int Llength) (C := RX5) (T := TX5) (N := 3) hx hb hts iX5 hown hK hP 0 rfl rfl 1 (by decide) f15 (fun _ h9 => h9) rfl dX5_append_10 ?_
      refine lv_bipush (v := 60) hx hb dX5_append_13 (by decide) ?_
      refine lv_icmp_ge (tgt := 50) hx hb dX5_append_15 (by decide) (fun c2 => ?_) (fun c2 => ?_)
      · replace h := sf_t c2 h
        exact hE50 _ _ h _ _ _ hP hD hS (lv_sub hl [] rfl)
      · replace h := sf_f c2 h
        refine lv_aload_n hx hb dX5_append_18 rfl (lv_at hl 0 rfl) ?_
        refine va_get (D := D) (ci := 5) (v := .ref (aL 1)) (C := RX5) (T := TX5) (N := 3) hx hb hts iX5 hown hK hP 0 rfl rfl 0 (by decide) f9 (fun _ h9 => h9) rfl dX5_append_19 ?_
        refine lv_aload_n hx hb dX5_append_22 rfl (lv_at hl 0 rfl) ?_
        refine va_get (D := D) (ci := 5) (v := .int Llength) (C := RX5) (T := TX5) (N := 3) hx hb hts iX5 hown hK hP 0 rfl rfl 1 (by decide) f15 (fun _ h9 => h9) rfl dX5_append_23 ?_
        refine lv_lload_n hx hb dX5_append_26 rfl (lv_at hl 1 rfl) ?_
        refine lv_iload hx hb dX5_append_27 (lv_at hl 3 rfl) ?_
        obtain ⟨r3, hc3, h⟩ := bnd1_inv h
        have hPc := hP.sub (ws' := ([] : va_W)) [] rfl
        have hDc := hD.sub (ws' := ([] : va_W)) [] rfl rfl
        have hFc := va_free (wc := ([] : va_W)) hD hS hA [] rfl
        refine xc_i (va_runS (As := [.long v1, .int v4]) (rest := [.int Llength, .ref (aL 1)]) ⟨hx, hb, hml, hown, hts⟩ (met_X5_signIn l D k  H.size v1 v4 r3 hc3) (va_cwS 2 hts gX5_append_X5_signIn rfl rfl rfl (by decide +kernel) ⟨Nat.le_of_ble_eq_true rfl, Nat.le_of_ble_eq_true rfl⟩) ⟨pw_blind, pw_start hPc hK hDc⟩ rfl rfl hl.1 rfl (lv_room (Nat.le_of_ble_eq_true rfl)) dX5_append_29 ⟨Nat.zero_le _, Nat.zero_le _⟩) hS hFc (fun H1 locs hP1 hD1 hk1 hS => ?_)
        obtain ⟨hP, hD⟩ := vj (ws' := (wL k aL Lsigns Llength Lat)) (w1 := ([] : va_W)) hP hD [] [0, 1] [0, 1] rfl rfl rfl rfl rfl hk1 hFc hP1 hD1
        clear hP1 hD1 hk1 hFc
        generalize H1 = H at hP hS ⊢
        refine lv_i2c (v := ji2c r3) hx hb dX5_append_32 rfl ?_
        obtain ⟨hi4, h⟩ := gi_inv h
        refine va_cast hx hb hK hP hD hS 1 2 rfl rfl hi4 dX5_append_33 (fun H locs hP hD hS => ?_)
        replace hP : va_P D vwCl (wL k aL (upd Lsigns (Llength.toNatClampNeg) (vp_nar .char (ji2c r3))) Llength Lat) H := hP
        replace hD : va_D A (wL k aL (upd Lsigns (Llength.toNatClampNeg) (vp_nar .char (ji2c r3))) Llength Lat) := hD
        refine lv_aload_n hx hb dX5_append_34 rfl (lv_at hl 0 rfl) ?_
        refine lv_dup hx hb dX5_append_35 rfl ?_
        refine va_get (D := D) (ci := 5) (v := .int Llength) (C := RX5) (T := TX5) (N := 3) hx hb hts iX5 hown hK hP 0 rfl rfl 1 (by decide) f15 (fun _ h9 => h9) rfl dX5_append_36 ?_
        refine lv_iconst (v := 1) hx hb dX5_append_39 (by decide) ?_
        refine lv_iadd hx hb dX5_append_40 ?_
        refine va_put (D := D) (ci := 5) (v := .int (Llength + 1)) (ty := .int) (C := RX5) (T := TX5) (N := 3) hx hb hts iX5 tyX5 tyX5_ok nmX5 hown hK hP hD hS 0 rfl rfl 1 (by decide) f15 (fun _ h9 => h9) rfl (by decide +kernel) rfl rfl (Nat.le_of_ble_eq_true rfl) dX5_append_41 (fun H locs hP hD hS => ?_)
        replace hP : va_P D vwCl (wL k aL (upd Lsigns (Llength.toNatClampNeg) (vp_nar .char (ji2c r3))) (Llength + 1) Lat) H := hP
        replace hD : va_D A (wL k aL (upd Lsigns (Llength.toNatClampNeg) (vp_nar .char (ji2c r3))) (Llength + 1) Lat) := hD
        refine lv_iinc (v := v4 + 1) (lv' := [(4, .int (v4 + 1)), (0, .ref (aL 0)), (1, .long v1), (3, .int v3)]) hx hb dX5_append_44 hl (k := 3) rfl rfl (by decide) rfl (fun ls hl => ?_)
        refine lv_goto (tgt := 3) hx hb dX5_append_47 (by decide) ?_
        exact ih _ _ _ h _ _ _ hP hD hS (lv_sub hl [1, 2, 3, 0] rfl)
  suffices main : ∀ (H : Heap) (locs : List Loc) (ls : Array Slot), va_P D vwCl (wL k aL Lsigns Llength Lat) H → va_D A (wL k aL Lsigns Llength Lat) → va_S A s.heap H locs → lv_has ls 5 [(0, .ref (aL 0)), (1, .long v1), (3, .int v3)] → W p l e rmX5_append s m args below meth c H locs 0 0 Q (F0 m 0 ls []) from main _ _ _ hP hD hS hl
  clear hP hD hS hl ls hAe
  intro H locs ls hP hD hS hl
  refine lv_iconst (v := 0) hx hb dX5_append_0 (by decide) ?_
  refine lv_istore (lv' := [(4, .int 0), (0, .ref (aL 0)), (1, .long v1), (3, .int v3)]) hx hb dX5_append_1 hl (by decide) rfl (fun ls hl => ?_)
  refine LH_3 _ (fun Lsigns Llength h H locs ls hP hD hS hl => ?_) _ _ _ _ h _ _ _ hP hD hS (lv_sub hl [1, 2, 3, 0] rfl)
  · skip
    have hP9 := hP
    have hD9 := hD
    have hS9 := hS
    subst hQ
    cases h
    exact W.vret hx hb hr (fun t ht hW => ⟨⟨(), rfl, trivial, by rw [ht]; exact hP9, va_K.moved hW.alike hK, hD9⟩, hS9.F ht⟩) hS9.2.2 dX5_append_50
def fX5_next (Lsigns : Nat → Int32) (Llength : Int32) (Lat : Int32) : Option (Int32) := (if Llength ≤ Lat then some (0) else gi Lat 60 (gn .char (Lsigns Lat.toNatClampNeg) (some (Lsigns Lat.toNatClampNeg))))
abbrev rmX5_next : Room := { frames := 0, cells := 0, slots := 0, locals := 0 }
set_option maxHeartbeats 4000000 in
set_option maxRecDepth 100000 in
theorem met_X5_next (l : Launch) (D : va_G) (k : Nat → ClassId)  (aL : Nat → Nat) (sz : Nat) (Lsigns : Nat → Int32) (Llength : Int32) (Lat : Int32)  (r : Int32) (h : fX5_next Lsigns Llength Lat = some r) : Met l yX5_next wsX5_next rmX5_next (va_Pc [.ref (aL 0)] (PreW D k (wL k aL Lsigns Llength Lat) sz)) (va_Qi (fun r9 (_ : Unit) => r9 = r) (fun _ t => PostW D k (va_A (wL k aL Lsigns Llength Lat) sz) (wL k aL Lsigns Llength Lat) t) (va_A (wL k aL Lsigns Llength Lat) sz)) 0 0 (va_A (wL k aL Lsigns Llength Lat) sz) := by
  refine Met.ofW (cc := cX5_next) (maxL := 1) (ret := (some .char)) (by decide) rfl ?_
  intro p e s m args below meth c s₁ B hml hv
  obtain ⟨hav, hsz, hP, hK, hD0⟩ := hv
  have hx := B.exec
  have hb := B.bytes
  have hr := B.returns
  have hts := atoms_spec (ws := wsX5_next) B.pre
  have hown : s.vm.findClass RX5 = some m.cls := findClass_of_methodNamed B.named
  have hlocks := B.notSynchronized
  subst hsz
  have hD := hD0.self (sz := s.heap.size)
  clear hD0
  generalize hAe : va_A (wL k aL Lsigns Llength Lat) s.heap.size = A at hD ⊢
  have hA : ∀ q : Nat, s.heap.size ≤ q → A q := fun q h => by rw [← hAe]; exact Or.inr h
  have hS : va_S A s.heap s.heap [] := va_S.rf
  have hl := lv_entry ([.ref (aL 0)]) (n := 1) (Nat.le_of_ble_eq_true rfl)
  rw [show entryFrame m args 1 = entryFrame m ([.ref (aL 0)] : List Value).toArray 1 from by rw [hav], lg_entry_eq]
  generalize (lg_sl ([.ref (aL 0)]) ++ List.replicate (1 - (lg_sl ([.ref (aL 0)])).length) Slot.unset).toArray = ls at hl ⊢
  replace hl : lv_has ls 1 [(0, .ref (aL 0))] := hl
  have f9 := hts (.fieldLink RX5 9 "UncertainBook$Line" "signs" "[C") (by decide +kernel)
  have f15 := hts (.fieldLink RX5 15 "UncertainBook$Line" "length" "I") (by decide +kernel)
  have f19 := hts (.fieldLink RX5 19 "UncertainBook$Line" "at" "I") (by decide +kernel)
  have iX5 : ∀ w ∈ u_ws RX5 TX5 3, w ∈ wsX5_next := by decide +kernel
  refine w_q (fun Q hQ => ?_)
  unfold fX5_next at h
  show W p l e rmX5_next s m args below meth c s.heap [] 0 0 Q (F0 m 0 ls [])
  suffices main : ∀ (H : Heap) (locs : List Loc) (ls : Array Slot), va_P D vwCl (wL k aL Lsigns Llength Lat) H → va_D A (wL k aL Lsigns Llength Lat) → va_S A s.heap H locs → lv_has ls 1 [(0, .ref (aL 0))] → W p l e rmX5_next s m args below meth c H locs 0 0 Q (F0 m 0 ls []) from main _ _ _ hP hD hS hl
  clear hP hD hS hl ls hAe
  intro H locs ls hP hD hS hl
  refine lv_aload_n hx hb dX5_next_0 rfl (lv_at hl 0 rfl) ?_
  refine va_get (D := D) (ci := 5) (v := .int Lat) (C := RX5) (T := TX5) (N := 3) hx hb hts iX5 hown hK hP 0 rfl rfl 2 (by decide) f19 (fun _ h9 => h9) rfl dX5_next_1 ?_
  refine lv_aload_n hx hb dX5_next_4 rfl (lv_at hl 0 rfl) ?_
  refine va_get (D := D) (ci := 5) (v := .int Llength) (C := RX5) (T := TX5) (N := 3) hx hb hts iX5 hown hK hP 0 rfl rfl 1 (by decide) f15 (fun _ h9 => h9) rfl dX5_next_5 ?_
  refine lv_icmp_ge (tgt := 23) hx hb dX5_next_8 (by decide) (fun c1 => ?_) (fun c1 => ?_)
  · replace h := sf_t c1 h
    refine lv_iconst (v := 0) hx hb dX5_next_23 (by decide) ?_
    have hP9 := hP
    have hD9 := hD
    have hS9 := hS
    subst hQ
    cases h
    exact W.zret hx hb hr rfl (fun t ht hW => ⟨⟨_, (), rfl, rfl, by rw [ht]; exact hP9, va_K.moved hW.alike hK, hD9⟩, hS9.F ht⟩) hS9.2.2 dX5_next_24
  · replace h := sf_f c1 h
    refine lv_aload_n hx hb dX5_next_11 rfl (lv_at hl 0 rfl) ?_
    refine va_get (D := D) (ci := 5) (v := .ref (aL 1)) (C := RX5) (T := TX5) (N := 3) hx hb hts iX5 hown hK hP 0 rfl rfl 0 (by decide) f9 (fun _ h9 => h9) rfl dX5_next_12 ?_
    refine lv_aload_n hx hb dX5_next_15 rfl (lv_at hl 0 rfl) ?_
    refine va_get (D := D) (ci := 5) (v := .int Lat) (C := RX5) (T := TX5) (N := 3) hx hb hts iX5 hown hK hP 0 rfl rfl 2 (by decide) f19 (fun _ h9 => h9) rfl dX5_next_16 ?_
    obtain ⟨hi2, h⟩ := gi_inv h
    refine va_cald hx hb hK hP 1 2 rfl rfl hi2 dX5_next_19 ?_
    refine lv_goto (tgt := 24) hx hb dX5_next_20 (by decide) ?_
    obtain ⟨hnr, h⟩ := gn_inv h
    have hP9 := hP
    have hD9 := hD
    have hS9 := hS
    subst hQ
    cases h
    exact W.zret hx hb hr hnr (fun t ht hW => ⟨⟨_, (), rfl, rfl, by rw [ht]; exact hP9, va_K.moved hW.alike hK, hD9⟩, hS9.F ht⟩) hS9.2.2 dX5_next_24
def fX5_isDigit (v0 : Int32) : Option (Int32) := (if v0 < 48 then some (0) else (if 57 < v0 then some (0) else some (1)))
abbrev rmX5_isDigit : Room := { frames := 0, cells := 0, slots := 0, locals := 0 }
set_option maxHeartbeats 4000000 in
set_option maxRecDepth 100000 in
theorem met_X5_isDigit (l : Launch) (D : va_G) (k : Nat → ClassId)   (sz : Nat)  (v0 : Int32) (r : Int32) (h : fX5_isDigit v0 = some r) : Met l yX5_isDigit wsX5_isDigit rmX5_isDigit (va_Pc [.int v0] (PreW D k ([] : va_W) sz)) (va_Qi (fun r9 (_ : Unit) => r9 = r) (fun _ t => PostW D k (va_A ([] : va_W) sz) ([] : va_W) t) (va_A ([] : va_W) sz)) 0 0 (va_A ([] : va_W) sz) := by
  refine Met.ofW (cc := cX5_isDigit) (maxL := 1) (ret := (some .boolean)) (by decide) rfl ?_
  intro p e s m args below meth c s₁ B hml hv
  obtain ⟨hav, hsz, hP, hK, hD0⟩ := hv
  have hx := B.exec
  have hb := B.bytes
  have hr := B.returns
  have hts := atoms_spec (ws := wsX5_isDigit) B.pre
  have hown : s.vm.findClass RX5 = some m.cls := findClass_of_methodNamed B.named
  have hlocks := B.notSynchronized
  subst hsz
  have hD := hD0.self (sz := s.heap.size)
  clear hD0
  generalize hAe : va_A ([] : va_W) s.heap.size = A at hD ⊢
  have hA : ∀ q : Nat, s.heap.size ≤ q → A q := fun q h => by rw [← hAe]; exact Or.inr h
  have hS : va_S A s.heap s.heap [] := va_S.rf
  have hl := lv_entry ([.int v0]) (n := 1) (Nat.le_of_ble_eq_true rfl)
  rw [show entryFrame m args 1 = entryFrame m ([.int v0] : List Value).toArray 1 from by rw [hav], lg_entry_eq]
  generalize (lg_sl ([.int v0]) ++ List.replicate (1 - (lg_sl ([.int v0])).length) Slot.unset).toArray = ls at hl ⊢
  replace hl : lv_has ls 1 [(0, .int v0)] := hl
  refine w_q (fun Q hQ => ?_)
  unfold fX5_isDigit at h
  show W p l e rmX5_isDigit s m args below meth c s.heap [] 0 0 Q (F0 m 0 ls [])
  suffices main : ∀ (H : Heap) (locs : List Loc) (ls : Array Slot), va_P D vwCl ([] : va_W) H → va_D A ([] : va_W) → va_S A s.heap H locs → lv_has ls 1 [(0, .int v0)] → W p l e rmX5_isDigit s m args below meth c H locs 0 0 Q (F0 m 0 ls []) from main _ _ _ hP hD hS hl
  clear hP hD hS hl ls hAe
  intro H locs ls hP hD hS hl
  refine lv_iload_n hx hb dX5_isDigit_0 rfl (lv_at hl 0 rfl) ?_
  refine lv_bipush (v := 48) hx hb dX5_isDigit_1 (by decide) ?_
  refine lv_icmp_lt (tgt := 16) hx hb dX5_isDigit_3 (by decide) (fun c1 => ?_) (fun c1 => ?_)
  · replace h := sf_t c1 h
    refine lv_iconst (v := 0) hx hb dX5_isDigit_16 (by decide) ?_
    have hP9 := hP
    have hD9 := hD
    have hS9 := hS
    subst hQ
    cases h
    exact W.zret hx hb hr rfl (fun t ht hW => ⟨⟨_, (), rfl, rfl, by rw [ht]; exact hP9, va_K.moved hW.alike hK, hD9⟩, hS9.F ht⟩) hS9.2.2 dX5_isDigit_17
  · replace h := sf_f c1 h
    refine lv_iload_n hx hb dX5_isDigit_6 rfl (lv_at hl 0 rfl) ?_
    refine lv_bipush (v := 57) hx hb dX5_isDigit_7 (by decide) ?_
    refine lv_icmp_gt (tgt := 16) hx hb dX5_isDigit_9 (by decide) (fun c2 => ?_) (fun c2 => ?_)
    · replace h := sf_t c2 h
      refine lv_iconst (v := 0) hx hb dX5_isDigit_16 (by decide) ?_
      have hP9 := hP
      have hD9 := hD
      have hS9 := hS
      subst hQ
      cases h
      exact W.zret hx hb hr rfl (fun t ht hW => ⟨⟨_, (), rfl, rfl, by rw [ht]; exact hP9, va_K.moved hW.alike hK, hD9⟩, hS9.F ht⟩) hS9.2.2 dX5_isDigit_17
    · replace h := sf_f c2 h
      refine lv_iconst (v := 1) hx hb dX5_isDigit_12 (by decide) ?_
      refine lv_goto (tgt := 17) hx hb dX5_isDigit_13 (by decide) ?_
      have hP9 := hP
      have hD9 := hD
      have hS9 := hS
      subst hQ
      cases h
      exact W.zret hx hb hr rfl (fun t ht hW => ⟨⟨_, (), rfl, rfl, by rw [ht]; exact hP9, va_K.moved hW.alike hK, hD9⟩, hS9.F ht⟩) hS9.2.2 dX5_isDigit_17
def LX5_readNumber_4 (Lsigns : Nat → Int32) (Llength : Int32) (E48 : Int32 → Int32 → Option (Int32 × Int32)) : Nat → Int32 → Int32 → Int32 → Option (Int32 × Int32)
  | 0, _, _, _ => none
  | fuel + 1, v1, v2, Lat => (if 4 ≤ v2 then E48 v1 Lat else bnd1 (fX5_next Lsigns Llength Lat) (fun r2 => bnd1 (fX5_isDigit r2) (fun r3 => (if r3 = 0 then E48 v1 Lat else bnd1 (fX5_next Lsigns Llength Lat) (fun r5 => LX5_readNumber_4 Lsigns Llength E48 fuel ((10 * v1) + (r5 - 48)) (v2 + 1) (Lat + 1))))))
def fX5_readNumber (Lsigns : Nat → Int32) (Llength : Int32) (Lat : Int32) : Option (Int32 × Int32) := LX5_readNumber_4 Lsigns Llength (fun (v1 : Int32) (Lat : Int32) => some (v1, Lat)) 1000 0 0 Lat
abbrev rmX5_readNumber : Room := { frames := 1, cells := 0, slots := 0, locals := 20 }
set_option maxHeartbeats 4000000 in
set_option maxRecDepth 100000 in
theorem met_X5_readNumber (l : Launch) (D : va_G) (k : Nat → ClassId)  (aL : Nat → Nat) (sz : Nat) (Lsigns : Nat → Int32) (Llength : Int32) (Lat : Int32)  (r : Int32) (RLat : Int32) (h : fX5_readNumber Lsigns Llength Lat = some (r, RLat)) : Met l yX5_readNumber wsX5_readNumber rmX5_readNumber (va_Pc [.ref (aL 0)] (PreW D k (wL k aL Lsigns Llength Lat) sz)) (va_Qi (fun r9 (_ : Unit) => r9 = r) (fun _ t => PostW D k (va_A (wL k aL Lsigns Llength Lat) sz) (wL k aL Lsigns Llength RLat) t) (va_A (wL k aL Lsigns Llength Lat) sz)) 0 0 (va_A (wL k aL Lsigns Llength Lat) sz) := by
  refine Met.ofW (cc := cX5_readNumber) (maxL := 3) (ret := (some .int)) (by decide) rfl ?_
  intro p e s m args below meth c s₁ B hml hv
  obtain ⟨hav, hsz, hP, hK, hD0⟩ := hv
  have hx := B.exec
  have hb := B.bytes
  have hr := B.returns
  have hts := atoms_spec (ws := wsX5_readNumber) B.pre
  have hown : s.vm.findClass RX5 = some m.cls := findClass_of_methodNamed B.named
  have hlocks := B.notSynchronized
  subst hsz
  have hD := hD0.self (sz := s.heap.size)
  clear hD0
  generalize hAe : va_A (wL k aL Lsigns Llength Lat) s.heap.size = A at hD ⊢
  have hA : ∀ q : Nat, s.heap.size ≤ q → A q := fun q h => by rw [← hAe]; exact Or.inr h
  have hS : va_S A s.heap s.heap [] := va_S.rf
  have hl := lv_entry ([.ref (aL 0)]) (n := 3) (Nat.le_of_ble_eq_true rfl)
  rw [show entryFrame m args 3 = entryFrame m ([.ref (aL 0)] : List Value).toArray 3 from by rw [hav], lg_entry_eq]
  generalize (lg_sl ([.ref (aL 0)]) ++ List.replicate (3 - (lg_sl ([.ref (aL 0)])).length) Slot.unset).toArray = ls at hl ⊢
  replace hl : lv_has ls 3 [(0, .ref (aL 0))] := hl
  have f19 := hts (.fieldLink RX5 19 "UncertainBook$Line" "at" "I") (by decide +kernel)
  have iX5 : ∀ w ∈ u_ws RX5 TX5 3, w ∈ wsX5_readNumber := by decide +kernel
  refine w_q (fun Q hQ => ?_)
  unfold fX5_readNumber at h
  show W p l e rmX5_readNumber s m args below meth c s.heap [] 0 0 Q (F0 m 0 ls [])
  have LH_4 : ∀ (E48 : Int32 → Int32 → Option (Int32 × Int32)) (hE48 : ∀ (v1 : Int32) (Lat : Int32), E48 v1 Lat = some (r, RLat) → ∀ (H : Heap) (locs : List Loc) (ls : Array Slot), va_P D vwCl (wL k aL Lsigns Llength Lat) H → va_D A (wL k aL Lsigns Llength Lat) → va_S A s.heap H locs → lv_has ls 3 [(1, .int v1)] → W p l e rmX5_readNumber s m args below meth c H locs 0 0 Q (F0 m 48 ls [])) (n : Nat) (v1 : Int32) (v2 : Int32) (Lat : Int32), LX5_readNumber_4 Lsigns Llength E48 n v1 v2 Lat = some (r, RLat) → ∀ (H : Heap) (locs : List Loc) (ls : Array Slot), va_P D vwCl (wL k aL Lsigns Llength Lat) H → va_D A (wL k aL Lsigns Llength Lat) → va_S A s.heap H locs → lv_has ls 3 [(0, .ref (aL 0)), (1, .int v1), (2, .int v2)] → W p l e rmX5_readNumber s m args below meth c H locs 0 0 Q (F0 m 4 ls []) := by
    intro E48 hE48 n
    induction n with
    | zero => intro v1 v2 Lat h; simp [LX5_readNumber_4] at h
    | succ n ih =>
    intro v1 v2 Lat h H locs ls hP hD hS hl
    rw [LX5_readNumber_4] at h
    refine lv_iload_n hx hb dX5_readNumber_4 rfl (lv_at hl 2 rfl) ?_
    refine lv_iconst (v := 4) hx hb dX5_readNumber_5 (by decide) ?_
    refine lv_icmp_ge (tgt := 48) hx hb dX5_readNumber_6 (by decide) (fun c1 => ?_) (fun c1 => ?_)
    · replace h := sf_t c1 h
      exact hE48 _ _ h _ _ _ hP hD hS (lv_sub hl [1] rfl)
    · replace h := sf_f c1 h
      refine lv_aload_n hx hb dX5_readNumber_9 rfl (lv_at hl 0 rfl) ?_
      obtain ⟨r2, hc2, h⟩ := bnd1_inv h
      have hFc := va_free (wc := (wL k aL Lsigns Llength Lat)) hD hS hA [0, 1] rfl
      refine xc_i (va_runV (As := []) (rest := []) ⟨hx, hb, hml, hown, hts⟩ (met_X5_next l D k  aL H.size Lsigns Llength Lat r2 hc2) (cwV 0 hts gX5_readNumber_X5_next rfl rfl rfl (by decide +kernel) ⟨Nat.le_of_ble_eq_true rfl, Nat.le_of_ble_eq_true rfl⟩) ⟨pw_blind, va_recv hK hP (ci := 5) (q0 := 0) rfl rfl, pw_start hP hK hD⟩ rfl rfl hl.1 rfl (lv_room (Nat.le_of_ble_eq_true rfl)) dX5_readNumber_10 ⟨Nat.zero_le _, Nat.zero_le _⟩) hS hFc (fun H1 locs hP1 hD1 hk1 hS => ?_)
      obtain ⟨hP, hD⟩ := vj_all hFc hP1 hD1
      clear hP1 hD1 hk1 hFc
      generalize H1 = H at hP hS ⊢
      obtain ⟨r3, hc3, h⟩ := bnd1_inv h
      have hPc := hP.sub (ws' := ([] : va_W)) [] rfl
      have hDc := hD.sub (ws' := ([] : va_W)) [] rfl rfl
      have hFc := va_free (wc := ([] : va_W)) hD hS hA [] rfl
      refine xc_i (va_runS (As := [.int r2]) (rest := []) ⟨hx, hb, hml, hown, hts⟩ (met_X5_isDigit l D k  H.size r2 r3 hc3) (va_cwS 1 hts gX5_readNumber_X5_isDigit rfl rfl rfl (by decide +kernel) ⟨Nat.le_of_ble_eq_true rfl, Nat.le_of_ble_eq_true rfl⟩) ⟨pw_blind, pw_start hPc hK hDc⟩ rfl rfl hl.1 rfl (lv_room (Nat.le_of_ble_eq_true rfl)) dX5_readNumber_13 ⟨Nat.zero_le _, Nat.zero_le _⟩) hS hFc (fun H1 locs hP1 hD1 hk1 hS => ?_)
      obtain ⟨hP, hD⟩ := vj (ws' := (wL k aL Lsigns Llength Lat)) (w1 := ([] : va_W)) hP hD [] [0, 1] [0, 1] rfl rfl rfl rfl rfl hk1 hFc hP1 hD1
      clear hP1 hD1 hk1 hFc
      generalize H1 = H at hP hS ⊢
      refine lv_if_eq (tgt := 48) hx hb dX5_readNumber_16 (by decide) (fun c4 => ?_) (fun c4 => ?_)
      · replace h := sf_t c4 h
        exact hE48 _ _ h _ _ _ hP hD hS (lv_sub hl [1] rfl)
      · replace h := sf_f c4 h
        refine lv_bipush (v := 10) hx hb dX5_readNumber_19 (by decide) ?_
        refine lv_iload_n hx hb dX5_readNumber_21 rfl (lv_at hl 1 rfl) ?_
        refine lv_imul hx hb dX5_readNumber_22 ?_
        refine lv_aload_n hx hb dX5_readNumber_23 rfl (lv_at hl 0 rfl) ?_
        obtain ⟨r5, hc5, h⟩ := bnd1_inv h
        have hFc := va_free (wc := (wL k aL Lsigns Llength Lat)) hD hS hA [0, 1] rfl
        refine xc_i (va_runV (As := []) (rest := [.int (10 * v1)]) ⟨hx, hb, hml, hown, hts⟩ (met_X5_next l D k  aL H.size Lsigns Llength Lat r5 hc5) (cwV 0 hts gX5_readNumber_X5_next rfl rfl rfl (by decide +kernel) ⟨Nat.le_of_ble_eq_true rfl, Nat.le_of_ble_eq_true rfl⟩) ⟨pw_blind, va_recv hK hP (ci := 5) (q0 := 0) rfl rfl, pw_start hP hK hD⟩ rfl rfl hl.1 rfl (lv_room (Nat.le_of_ble_eq_true rfl)) dX5_readNumber_24 ⟨Nat.zero_le _, Nat.zero_le _⟩) hS hFc (fun H1 locs hP1 hD1 hk1 hS => ?_)
        obtain ⟨hP, hD⟩ := vj_all hFc hP1 hD1
        clear hP1 hD1 hk1 hFc
        generalize H1 = H at hP hS ⊢
        refine lv_bipush (v := 48) hx hb dX5_readNumber_27 (by decide) ?_
        refine lv_isub hx hb dX5_readNumber_29 ?_
        refine lv_iadd hx hb dX5_readNumber_30 ?_
        refine lv_istore_n (lv' := [(1, .int ((10 * v1) + (r5 - 48))), (0, .ref (aL 0)), (2, .int v2)]) hx hb dX5_readNumber_31 rfl hl (by decide) rfl (fun ls hl => ?_)
        refine lv_aload_n hx hb dX5_readNumber_32 rfl (lv_at hl 1 rfl) ?_
        refine lv_dup hx hb dX5_readNumber_33 rfl ?_
        refine va_get (D := D) (ci := 5) (v := .int Lat) (C := RX5) (T := TX5) (N := 3) hx hb hts iX5 hown hK hP 0 rfl rfl 2 (by decide) f19 (fun _ h9 => h9) rfl dX5_readNumber_34 ?_
        refine lv_iconst (v := 1) hx hb dX5_readNumber_37 (by decide) ?_
        refine lv_iadd hx hb dX5_readNumber_38 ?_
        refine va_put (D := D) (ci := 5) (v := .int (Lat + 1)) (ty := .int) (C := RX5) (T := TX5) (N := 3) hx hb hts iX5 tyX5 tyX5_ok nmX5 hown hK hP hD hS 0 rfl rfl 2 (by decide) f19 (fun _ h9 => h9) rfl (by decide +kernel) rfl rfl (Nat.le_of_ble_eq_true rfl) dX5_readNumber_39 (fun H locs hP hD hS => ?_)
        replace hP : va_P D vwCl (wL k aL Lsigns Llength (Lat + 1)) H := hP
        replace hD : va_D A (wL k aL Lsigns Llength (Lat + 1)) := hD
        refine lv_iinc (v := v2 + 1) (lv' := [(2, .int (v2 + 1)), (1, .int ((10 * v1) + (r5 - 48))), (0, .ref (aL 0))]) hx hb dX5_readNumber_42 hl (k := 2) rfl rfl (by decide) rfl (fun ls hl => ?_)
        refine lv_goto (tgt := 4) hx hb dX5_readNumber_45 (by decide) ?_
        exact ih _ _ _ h _ _ _ hP hD hS (lv_sub hl [2, 1, 0] rfl)
  suffices main : ∀ (H : Heap) (locs : List Loc) (ls : Array Slot), va_P D vwCl (wL k aL Lsigns Llength Lat) H → va_D A (wL k aL Lsigns Llength Lat) → va_S A s.heap H locs → lv_has ls 3 [(0, .ref (aL 0))] → W p l e rmX5_readNumber s m args below meth c H locs 0 0 Q (F0 m 0 ls []) from main _ _ _ hP hD hS hl
  clear hP hD hS hl ls hAe
  intro H locs ls hP hD hS hl
  refine lv_iconst (v := 0) hx hb dX5_readNumber_0 (by decide) ?_
  refine lv_istore_n (lv' := [(1, .int 0), (0, .ref (aL 0))]) hx hb dX5_readNumber_1 rfl hl (by decide) rfl (fun ls hl => ?_)
  refine lv_iconst (v := 0) hx hb dX5_readNumber_2 (by decide) ?_
  refine lv_istore_n (lv' := [(2, .int 0), (1, .int 0), (0, .ref (aL 0))]) hx hb dX5_readNumber_3 rfl hl (by decide) rfl (fun ls hl => ?_)
  refine LH_4 _ (fun v1 Lat h H locs ls hP hD hS hl => ?_) _ _ _ _ h _ _ _ hP hD hS (lv_sub hl [2, 1, 0] rfl)
  · skip
    refine lv_iload_n hx hb dX5_readNumber_48 rfl (lv_at hl 0 rfl) ?_
    have hP9 := hP
    have hD9 := hD
    have hS9 := hS
    subst hQ
    cases h
    exact W.iret hx hb hr (fun t ht hW => ⟨⟨_, (), rfl, rfl, by rw [ht]; exact hP9, va_K.moved hW.alike hK, hD9⟩, hS9.F ht⟩) hS9.2.2 dX5_readNumber_49
/-- what a reader of the line computes: the depth, the line, the rows so far; the part and what has changed -/
abbrev TPs : Type := Int32 → (Nat → Int32) → Int32 → Int32 → (Nat → Int32) → (Nat → Int32) → (Nat → Int32) → (Nat → Int32) → Int32 → Option (Int32 × Int32 × (Nat → Int32) × (Nat → Int32) × (Nat → Int32) × (Nat → Int32) × Int32)
abbrev rmX5_readClosed (dl : Nat) : Room := { frames := 5 * dl + 8, cells := 0, slots := 0, locals := 150 * dl + 330 }
abbrev rmX5_readBase (dl : Nat) : Room := { frames := 5 * dl + 9, cells := 0, slots := 0, locals := 150 * dl + 360 }
abbrev rmX5_readPart (dl : Nat) : Room := { frames := 5 * dl + 5, cells := 0, slots := 0, locals := 150 * dl + 240 }
abbrev rmX5_readTerm (dl : Nat) : Room := { frames := 5 * dl + 6, cells := 0, slots := 0, locals := 150 * dl + 270 }
abbrev rmX5_readSum (dl : Nat) : Room := { frames := 5 * dl + 7, cells := 0, slots := 0, locals := 150 * dl + 300 }
def ConP (l : Launch) (D : va_G) (k : Nat → ClassId) (dl : Nat) (fP : TPs) : Prop := ∀ (aL : Nat → Nat) (aF : Nat → Nat) (sz : Nat) (Lsigns : Nat → Int32) (Llength : Int32) (Lat : Int32) (Fkinds : Nat → Int32) (Flefts : Nat → Int32) (Frights : Nat → Int32) (Fplaces : Nat → Int32) (Fvalues : Nat → Int64) (Fslopes : Nat → Int64) (Fexponents : Nat → Int32) (Fsize : Int32) (Froot : Int32) (v2 : Int32) (r : Int32) (RLat : Int32) (RFkinds : Nat → Int32) (RFlefts : Nat → Int32) (RFrights : Nat → Int32) (RFplaces : Nat → Int32) (RFsize : Int32), fP v2 Lsigns Llength Lat Fkinds Flefts Frights Fplaces Fsize = some (r, RLat, RFkinds, RFlefts, RFrights, RFplaces, RFsize) → Met l yX5_readPart wsX5_readPart (rmX5_readPart dl) (va_Pc [.ref (aL 0), .ref (aF 0), .int v2] (PreW D k ((wL k aL Lsigns Llength Lat) ++ (wF k aF Fkinds Flefts Frights Fplaces Fvalues Fslopes Fexponents Fsize Froot)) sz)) (va_Qi (fun r9 (_ : Unit) => r9 = r) (fun _ t => PostW D k (va_A ((wL k aL Lsigns Llength Lat) ++ (wF k aF Fkinds Flefts Frights Fplaces Fvalues Fslopes Fexponents Fsize Froot)) sz) ((wL k aL Lsigns Llength RLat) ++ (wF k aF RFkinds RFlefts RFrights RFplaces Fvalues Fslopes Fexponents RFsize Froot)) t) (va_A ((wL k aL Lsigns Llength Lat) ++ (wF k aF Fkinds Flefts Frights Fplaces Fvalues Fslopes Fexponents Fsize Froot)) sz)) 0 0 (va_A ((wL k aL Lsigns Llength Lat) ++ (wF k aF Fkinds Flefts Frights Fplaces Fvalues Fslopes Fexponents Fsize Froot)) sz)
def ConS (l : Launch) (D : va_G) (k : Nat → ClassId) (dl : Nat) (fS : TPs) : Prop := ∀ (aL : Nat → Nat) (aF : Nat → Nat) (sz : Nat) (Lsigns : Nat → Int32) (Llength : Int32) (Lat : Int32) (Fkinds : Nat → Int32) (Flefts : Nat → Int32) (Frights : Nat → Int32) (Fplaces : Nat → Int32) (Fvalues : Nat → Int64) (Fslopes : Nat → Int64) (Fexponents : Nat → Int32) (Fsize : Int32) (Froot : Int32) (v2 : Int32) (r : Int32) (RLat : Int32) (RFkinds : Nat → Int32) (RFlefts : Nat → Int32) (RFrights : Nat → Int32) (RFplaces : Nat → Int32) (RFsize : Int32), fS v2 Lsigns Llength Lat Fkinds Flefts Frights Fplaces Fsize = some (r, RLat, RFkinds, RFlefts, RFrights, RFplaces, RFsize) → Met l yX5_readSum wsX5_readSum (rmX5_readSum dl) (va_Pc [.ref (aL 0), .ref (aF 0), .int v2] (PreW D k ((wL k aL Lsigns Llength Lat) ++ (wF k aF Fkinds Flefts Frights Fplaces Fvalues Fslopes Fexponents Fsize Froot)) sz)) (va_Qi (fun r9 (_ : Unit) => r9 = r) (fun _ t => PostW D k (va_A ((wL k aL Lsigns Llength Lat) ++ (wF k aF Fkinds Flefts Frights Fplaces Fvalues Fslopes Fexponents Fsize Froot)) sz) ((wL k aL Lsigns Llength RLat) ++ (wF k aF RFkinds RFlefts RFrights RFplaces Fvalues Fslopes Fexponents RFsize Froot)) t) (va_A ((wL k aL Lsigns Llength Lat) ++ (wF k aF Fkinds Flefts Frights Fplaces Fvalues Fslopes Fexponents Fsize Froot)) sz)) 0 0 (va_A ((wL k aL Lsigns Llength Lat) ++ (wF k aF Fkinds Flefts Frights Fplaces Fvalues Fslopes Fexponents Fsize Froot)) sz)
def fX5_readClosed (v2 : Int32) (Lsigns : Nat → Int32) (Llength : Int32) (Lat : Int32) (Fkinds : Nat → Int32) (Flefts : Nat → Int32) (Frights : Nat → Int32) (Fplaces : Nat → Int32) (Fsize : Int32) (fS : TPs) : Option (Int32 × Int32 × (Nat → Int32) × (Nat → Int32) × (Nat → Int32) × (Nat → Int32) × Int32) := bnd7 (fS v2 Lsigns Llength Lat Fkinds Flefts Frights Fplaces Fsize) (fun r1 at__1 Fkinds_1 Flefts_1 Frights_1 Fplaces_1 Fsize_1 => (if r1 = ((-1)) then some ((-1), at__1, Fkinds_1, Flefts_1, Frights_1, Fplaces_1, Fsize_1) else bnd1 (fX5_next Lsigns Llength at__1) (fun r3 => (if r3 = 41 then some (r1, at__1 + 1, Fkinds_1, Flefts_1, Frights_1, Fplaces_1, Fsize_1) else some ((-1), at__1, Fkinds_1, Flefts_1, Frights_1, Fplaces_1, Fsize_1)))))
set_option maxHeartbeats 4000000 in
set_option maxRecDepth 100000 in
theorem met_X5_readClosed (l : Launch) (D : va_G) (k : Nat → ClassId) (dl : Nat) (fS : TPs) (hfS : ConS l D k dl fS) (aL : Nat → Nat) (aF : Nat → Nat) (sz : Nat) (Lsigns : Nat → Int32) (Llength : Int32) (Lat : Int32) (Fkinds : Nat → Int32) (Flefts : Nat → Int32) (Frights : Nat → Int32) (Fplaces : Nat → Int32) (Fvalues : Nat → Int64) (Fslopes : Nat → Int64) (Fexponents : Nat → Int32) (Fsize : Int32) (Froot : Int32) (v2 : Int32) (r : Int32) (RLat : Int32) (RFkinds : Nat → Int32) (RFlefts : Nat → Int32) (RFrights : Nat → Int32) (RFplaces : Nat → Int32) (RFsize : Int32) (h : fX5_readClosed v2 Lsigns Llength Lat Fkinds Flefts Frights Fplaces Fsize fS = some (r, RLat, RFkinds, RFlefts, RFrights, RFplaces, RFsize)) : Met l yX5_readClosed wsX5_readClosed (rmX5_readClosed dl) (va_Pc [.ref (aL 0), .ref (aF 0), .int v2] (PreW D k ((wL k aL Lsigns Llength Lat) ++ (wF k aF Fkinds Flefts Frights Fplaces Fvalues Fslopes Fexponents Fsize Froot)) sz)) (va_Qi (fun r9 (_ : Unit) => r9 = r) (fun _ t => PostW D k (va_A ((wL k aL Lsigns Llength Lat) ++ (wF k aF Fkinds Flefts Frights Fplaces Fvalues Fslopes Fexponents Fsize Froot)) sz) ((wL k aL Lsigns Llength RLat) ++ (wF k aF RFkinds RFlefts RFrights RFplaces Fvalues Fslopes Fexponents RFsize Froot)) t) (va_A ((wL k aL Lsigns Llength Lat) ++ (wF k aF Fkinds Flefts Frights Fplaces Fvalues Fslopes Fexponents Fsize Froot)) sz)) 0 0 (va_A ((wL k aL Lsigns Llength Lat) ++ (wF k aF Fkinds Flefts Frights Fplaces Fvalues Fslopes Fexponents Fsize Froot)) sz) := by
  refine Met.ofW (cc := cX5_readClosed) (maxL := 4) (ret := (some .int)) (by decide) rfl ?_
  intro p e s m args below meth c s₁ B hml hv
  obtain ⟨hav, hsz, hP, hK, hD0⟩ := hv
  have hx := B.exec
  have hb := B.bytes
  have hr := B.returns
  have hts := atoms_spec (ws := wsX5_readClosed) B.pre
  have hown : s.vm.findClass RX5 = some m.cls := findClass_of_methodNamed B.named
  have hlocks := B.notSynchronized
  subst hsz
  have hD := hD0.self (sz := s.heap.size)
  clear hD0
  generalize hAe : va_A ((wL k aL Lsigns Llength Lat) ++ (wF k aF Fkinds Flefts Frights Fplaces Fvalues Fslopes Fexponents Fsize Froot)) s.heap.size = A at hD ⊢
  have hA : ∀ q : Nat, s.heap.size ≤ q → A q := fun q h => by rw [← hAe]; exact Or.inr h
  have hS : va_S A s.heap s.heap [] := va_S.rf
  have hl := lv_entry ([.ref (aL 0), .ref (aF 0), .int v2]) (n := 4) (Nat.le_of_ble_eq_true rfl)
  rw [show entryFrame m args 4 = entryFrame m ([.ref (aL 0), .ref (aF 0), .int v2] : List Value).toArray 4 from by rw [hav], lg_entry_eq]
  generalize (lg_sl ([.ref (aL 0), .ref (aF 0), .int v2]) ++ List.replicate (4 - (lg_sl ([.ref (aL 0), .ref (aF 0), .int v2])).length) Slot.unset).toArray = ls at hl ⊢
  replace hl : lv_has ls 4 [(0, .ref (aL 0)), (1, .ref (aF 0)), (2, .int v2)] := hl
  have f19 := hts (.fieldLink RX5 19 "UncertainBook$Line" "at" "I") (by decide +kernel)
  have iX5 : ∀ w ∈ u_ws RX5 TX5 3, w ∈ wsX5_readClosed := by decide +kernel
  refine w_q (fun Q hQ => ?_)
  unfold fX5_readClosed at h
  show W p l e (rmX5_readClosed dl) s m args below meth c s.heap [] 0 0 Q (F0 m 0 ls [])
  suffices main : ∀ (H : Heap) (locs : List Loc) (ls : Array Slot), va_P D vwCl ((wL k aL Lsigns Llength Lat) ++ (wF k aF Fkinds Flefts Frights Fplaces Fvalues Fslopes Fexponents Fsize Froot)) H → va_D A ((wL k aL Lsigns Llength Lat) ++ (wF k aF Fkinds Flefts Frights Fplaces Fvalues Fslopes Fexponents Fsize Froot)) → va_S A s.heap H locs → lv_has ls 4 [(0, .ref (aL 0)), (1, .ref (aF 0)), (2, .int v2)] → W p l e (rmX5_readClosed dl) s m args below meth c H locs 0 0 Q (F0 m 0 ls []) from main _ _ _ hP hD hS hl
  clear hP hD hS hl ls hAe
  intro H locs ls hP hD hS hl
  refine lv_aload_n hx hb dX5_readClosed_0 rfl (lv_at hl 0 rfl) ?_
  refine lv_aload_n hx hb dX5_readClosed_1 rfl (lv_at hl 1 rfl) ?_
  refine lv_iload_n hx hb dX5_readClosed_2 rfl (lv_at hl 2 rfl) ?_
  obtain ⟨r1, at__1, Fkinds_1, Flefts_1, Frights_1, Fplaces_1, Fsize_1, hc1, h⟩ := bnd7_inv h
  have hFc := va_free (wc := ((wL k aL Lsigns Llength Lat) ++ (wF k aF Fkinds Flefts Frights Fplaces Fvalues Fslopes Fexponents Fsize Froot))) hD hS hA [0, 1, 2, 3, 4, 5, 6, 7, 8, 9] rfl
  refine xc_i (va_runV (As := [.ref (aF 0), .int v2]) (rest := []) ⟨hx, hb, hml, hown, hts⟩ (hfS aL aF H.size Lsigns Llength Lat Fkinds Flefts Frights Fplaces Fvalues Fslopes Fexponents Fsize Froot v2 r1 at__1 Fkinds_1 Flefts_1 Frights_1 Fplaces_1 Fsize_1 hc1) (cwV 2 hts gX5_readClosed_X5_readSum rfl rfl rfl (by decide +kernel) ⟨by show 5 * dl + 7 + 1 ≤ 5 * dl + 8; omega, by show 8 + (7 + 11) + (150 * dl + 300) ≤ 150 * dl + 330; omega⟩) ⟨pw_blind, va_recv hK hP (ci := 5) (q0 := 0) rfl rfl, pw_start hP hK hD⟩ rfl rfl hl.1 rfl (lv_room (Nat.le_of_ble_eq_true rfl)) dX5_readClosed_3 ⟨Nat.zero_le _, Nat.zero_le _⟩) hS hFc (fun H1 locs hP1 hD1 hk1 hS => ?_)
  obtain ⟨hP, hD⟩ := vj_all hFc hP1 hD1
  clear hP1 hD1 hk1 hFc
  generalize H1 = H at hP hS ⊢
  refine lv_istore_n (lv' := [(3, .int r1), (0, .ref (aL 0)), (1, .ref (aF 0)), (2, .int v2)]) hx hb dX5_readClosed_6 rfl hl (by decide) rfl (fun ls hl => ?_)
  refine lv_iload_n hx hb dX5_readClosed_7 rfl (lv_at hl 0 rfl) ?_
  refine lv_iconst (v := -1) hx hb dX5_readClosed_8 (by decide) ?_
  refine lv_icmp_eq (tgt := 21) hx hb dX5_readClosed_9 (by decide) (fun c2 => ?_) (fun c2 => ?_)
  · replace h := sf_t c2 h
    refine lv_iconst (v := -1) hx hb dX5_readClosed_21 (by decide) ?_
    have hP9 := hP
    have hD9 := hD
    have hS9 := hS
    subst hQ
    cases h
    exact W.iret hx hb hr (fun t ht hW => ⟨⟨_, (), rfl, rfl, by rw [ht]; exact hP9, va_K.moved hW.alike hK, hD9⟩, hS9.F ht⟩) hS9.2.2 dX5_readClosed_22
  · replace h := sf_f c2 h
    refine lv_aload_n hx hb dX5_readClosed_12 rfl (lv_at hl 1 rfl) ?_
    obtain ⟨r3, hc3, h⟩ := bnd1_inv h
    have hPc := hP.sub (ws' := (wL k aL Lsigns Llength at__1)) [0, 1] rfl
    have hDc := hD.sub (ws' := (wL k aL Lsigns Llength at__1)) [0, 1] rfl rfl
    have hFc := va_free (wc := (wL k aL Lsigns Llength at__1)) hD hS hA [0, 1] rfl
    refine xc_i (va_runV (As := []) (rest := []) ⟨hx, hb, hml, hown, hts⟩ (met_X5_next l D k  aL H.size Lsigns Llength at__1 r3 hc3) (cwV 0 hts gX5_readClosed_X5_next rfl rfl rfl (by decide +kernel) ⟨by show 0 + 1 ≤ 5 * dl + 8; omega, by show 8 + (1 + 11) + (0) ≤ 150 * dl + 330; omega⟩) ⟨pw_blind, va_recv hK hPc (ci := 5) (q0 := 0) rfl rfl, pw_start hPc hK hDc⟩ rfl rfl hl.1 rfl (lv_room (Nat.le_of_ble_eq_true rfl)) dX5_readClosed_13 ⟨Nat.zero_le _, Nat.zero_le _⟩) hS hFc (fun H1 locs hP1 hD1 hk1 hS => ?_)
    obtain ⟨hP, hD⟩ := vj (ws' := ((wL k aL Lsigns Llength at__1) ++ (wF k aF Fkinds_1 Flefts_1 Frights_1 Fplaces_1 Fvalues Fslopes Fexponents Fsize_1 Froot))) (w1 := (wL k aL Lsigns Llength at__1)) hP hD [0, 1] [2, 3, 4, 5, 6, 7, 8, 9] [8, 9, 0, 1, 2, 3, 4, 5, 6, 7] rfl rfl rfl rfl rfl hk1 hFc hP1 hD1
    clear hP1 hD1 hk1 hFc
    generalize H1 = H at hP hS ⊢
    refine lv_bipush (v := 41) hx hb dX5_readClosed_16 (by decide) ?_
    refine lv_icmp_eq (tgt := 23) hx hb dX5_readClosed_18 (by decide) (fun c4 => ?_) (fun c4 => ?_)
    · replace h := sf_t c4 h
      refine lv_aload_n hx hb dX5_readClosed_23 rfl (lv_at hl 1 rfl) ?_
      refine lv_dup hx hb dX5_readClosed_24 rfl ?_
      refine va_get (D := D) (ci := 5) (v := .int at__1) (C := RX5) (T := TX5) (N := 3) hx hb hts iX5 hown hK hP 0 rfl rfl 2 (by decide) f19 (fun _ h9 => h9) rfl dX5_readClosed_25 ?_
      refine lv_iconst (v := 1) hx hb dX5_readClosed_28 (by decide) ?_
      refine lv_iadd hx hb dX5_readClosed_29 ?_
      refine va_put (D := D) (ci := 5) (v := .int (at__1 + 1)) (ty := .int) (C := RX5) (T := TX5) (N := 3) hx hb hts iX5 tyX5 tyX5_ok nmX5 hown hK hP hD hS 0 rfl rfl 2 (by decide) f19 (fun _ h9 => h9) rfl (by decide +kernel) rfl rfl (Nat.le_of_ble_eq_true rfl) dX5_readClosed_30 (fun H locs hP hD hS => ?_)
      replace hP : va_P D vwCl ((wL k aL Lsigns Llength (at__1 + 1)) ++ (wF k aF Fkinds_1 Flefts_1 Frights_1 Fplaces_1 Fvalues Fslopes Fexponents Fsize_1 Froot)) H := hP
      replace hD : va_D A ((wL k aL Lsigns Llength (at__1 + 1)) ++ (wF k aF Fkinds_1 Flefts_1 Frights_1 Fplaces_1 Fvalues Fslopes Fexponents Fsize_1 Froot)) := hD
      refine lv_iload_n hx hb dX5_readClosed_33 rfl (lv_at hl 0 rfl) ?_
      have hP9 := hP
      have hD9 := hD
      have hS9 := hS
      subst hQ
      cases h
      exact W.iret hx hb hr (fun t ht hW => ⟨⟨_, (), rfl, rfl, by rw [ht]; exact hP9, va_K.moved hW.alike hK, hD9⟩, hS9.F ht⟩) hS9.2.2 dX5_readClosed_34
    · replace h := sf_f c4 h
      refine lv_iconst (v := -1) hx hb dX5_readClosed_21 (by decide) ?_
      have hP9 := hP
      have hD9 := hD
      have hS9 := hS
      subst hQ
      cases h
      exact W.iret hx hb hr (fun t ht hW => ⟨⟨_, (), rfl, rfl, by rw [ht]; exact hP9, va_K.moved hW.alike hK, hD9⟩, hS9.F ht⟩) hS9.2.2 dX5_readClosed_22
def BX5_readBase_86 (Lsigns : Nat → Int32) (Llength : Int32) (v2 : Int32) (fP : TPs) (fS : TPs)  (v3 : Int32) (v4 : Int32) (Lat : Int32) (Fkinds : Nat → Int32) (Flefts : Nat → Int32) (Frights : Nat → Int32) (Fplaces : Nat → Int32) (Fsize : Int32) : Option (Int32 × Int32 × (Nat → Int32) × (Nat → Int32) × (Nat → Int32) × (Nat → Int32) × Int32) := (if v3 = 40 then bnd7 (fX5_readClosed (v2 + 1) Lsigns Llength (Lat + 1) Fkinds Flefts Frights Fplaces Fsize fS) (fun r11 at__11 Fkinds_11 Flefts_11 Frights_11 Fplaces_11 Fsize_11 => some (r11, at__11, Fkinds_11, Flefts_11, Frights_11, Fplaces_11, Fsize_11)) else bnd7 (fP (v2 + 1) Lsigns Llength (Lat + 1) Fkinds Flefts Frights Fplaces Fsize) (fun r8 at__8 Fkinds_8 Flefts_8 Frights_8 Fplaces_8 Fsize_8 => (if r8 = ((-1)) then some ((-1), at__8, Fkinds_8, Flefts_8, Frights_8, Fplaces_8, Fsize_8) else bnd6 (fX3_add 2 r8 0 v4 Fkinds_8 Flefts_8 Frights_8 Fplaces_8 Fsize_8) (fun r10 kinds_10 lefts_10 rights_10 places_10 size_10 => some (r10, at__8, kinds_10, lefts_10, rights_10, places_10, size_10)))))
def BX5_readBase_66 (Lsigns : Nat → Int32) (Llength : Int32) (v2 : Int32) (fP : TPs) (fS : TPs)  (v3 : Int32) (v4 : Int32) (Lat : Int32) (Fkinds : Nat → Int32) (Flefts : Nat → Int32) (Frights : Nat → Int32) (Fplaces : Nat → Int32) (Fsize : Int32) : Option (Int32 × Int32 × (Nat → Int32) × (Nat → Int32) × (Nat → Int32) × (Nat → Int32) × Int32) := (if 7 ≤ v2 then some ((-1), Lat, Fkinds, Flefts, Frights, Fplaces, Fsize) else (if v3 = 45 then BX5_readBase_86 Lsigns Llength v2 fP fS v3 v4 Lat Fkinds Flefts Frights Fplaces Fsize else (if v3 = 40 then BX5_readBase_86 Lsigns Llength v2 fP fS v3 v4 Lat Fkinds Flefts Frights Fplaces Fsize else some ((-1), Lat, Fkinds, Flefts, Frights, Fplaces, Fsize))))
def fX5_readBase (v2 : Int32) (Lsigns : Nat → Int32) (Llength : Int32) (Lat : Int32) (Fkinds : Nat → Int32) (Flefts : Nat → Int32) (Frights : Nat → Int32) (Fplaces : Nat → Int32) (Fsize : Int32) (fP : TPs) (fS : TPs) : Option (Int32 × Int32 × (Nat → Int32) × (Nat → Int32) × (Nat → Int32) × (Nat → Int32) × Int32) := bnd1 (fX5_next Lsigns Llength Lat) (fun r1 => bnd1 (fX5_isDigit r1) (fun r2 => (if r2 = 0 then (if r1 < 97 then BX5_readBase_66 Lsigns Llength v2 fP fS r1 Lat Lat Fkinds Flefts Frights Fplaces Fsize else (if 103 ≤ r1 then BX5_readBase_66 Lsigns Llength v2 fP fS r1 Lat Lat Fkinds Flefts Frights Fplaces Fsize else bnd6 (fX3_add 1 (r1 - 97) 0 Lat Fkinds Flefts Frights Fplaces Fsize) (fun r14 kinds_14 lefts_14 rights_14 places_14 size_14 => some (r14, Lat + 1, kinds_14, lefts_14, rights_14, places_14, size_14)))) else bnd2 (fX5_readNumber Lsigns Llength Lat) (fun r15 at__15 => bnd6 (fX3_add 0 r15 0 Lat Fkinds Flefts Frights Fplaces Fsize) (fun r16 kinds_16 lefts_16 rights_16 places_16 size_16 => some (r16, at__15, kinds_16, lefts_16, rights_16, places_16, size_16))))))
set_option maxHeartbeats 4000000 in
set_option maxRecDepth 100000 in
theorem met_X5_readBase (l : Launch) (D : va_G) (k : Nat → ClassId) (dl : Nat) (fP fS : TPs) (hfP : ConP l D k dl fP) (hfS : ConS l D k dl fS) (aL : Nat → Nat) (aF : Nat → Nat) (sz : Nat) (Lsigns : Nat → Int32) (Llength : Int32) (Lat : Int32) (Fkinds : Nat → Int32) (Flefts : Nat → Int32) (Frights : Nat → Int32) (Fplaces : Nat → Int32) (Fvalues : Nat → Int64) (Fslopes : Nat → Int64) (Fexponents : Nat → Int32) (Fsize : Int32) (Froot : Int32) (v2 : Int32) (r : Int32) (RLat : Int32) (RFkinds : Nat → Int32) (RFlefts : Nat → Int32) (RFrights : Nat → Int32) (RFplaces : Nat → Int32) (RFsize : Int32) (h : fX5_readBase v2 Lsigns Llength Lat Fkinds Flefts Frights Fplaces Fsize fP fS = some (r, RLat, RFkinds, RFlefts, RFrights, RFplaces, RFsize)) : Met l yX5_readBase wsX5_readBase (rmX5_readBase dl) (va_Pc [.ref (aL 0), .ref (aF 0), .int v2] (PreW D k ((wL k aL Lsigns Llength Lat) ++ (wF k aF Fkinds Flefts Frights Fplaces Fvalues Fslopes Fexponents Fsize Froot)) sz)) (va_Qi (fun r9 (_ : Unit) => r9 = r) (fun _ t => PostW D k (va_A ((wL k aL Lsigns Llength Lat) ++ (wF k aF Fkinds Flefts Frights Fplaces Fvalues Fslopes Fexponents Fsize Froot)) sz) ((wL k aL Lsigns Llength RLat) ++ (wF k aF RFkinds RFlefts RFrights RFplaces Fvalues Fslopes Fexponents RFsize Froot)) t) (va_A ((wL k aL Lsigns Llength Lat) ++ (wF k aF Fkinds Flefts Frights Fplaces Fvalues Fslopes Fexponents Fsize Froot)) sz)) 0 0 (va_A ((wL k aL Lsigns Llength Lat) ++ (wF k aF Fkinds Flefts Frights Fplaces Fvalues Fslopes Fexponents Fsize Froot)) sz) := by
  refine Met.ofW (cc := cX5_readBase) (maxL := 6) (ret := (some .int)) (by decide) rfl ?_
  intro p e s m args below meth c s₁ B hml hv
  obtain ⟨hav, hsz, hP, hK, hD0⟩ := hv
  have hx := B.exec
  have hb := B.bytes
  have hr := B.returns
  have hts := atoms_spec (ws := wsX5_readBase) B.pre
  have hown : s.vm.findClass RX5 = some m.cls := findClass_of_methodNamed B.named
  have hlocks := B.notSynchronized
  subst hsz
  have hD := hD0.self (sz := s.heap.size)
  clear hD0
  generalize hAe : va_A ((wL k aL Lsigns Llength Lat) ++ (wF k aF Fkinds Flefts Frights Fplaces Fvalues Fslopes Fexponents Fsize Froot)) s.heap.size = A at hD ⊢
  have hA : ∀ q : Nat, s.heap.size ≤ q → A q := fun q h => by rw [← hAe]; exact Or.inr h
  have hS : va_S A s.heap s.heap [] := va_S.rf
  have hl := lv_entry ([.ref (aL 0), .ref (aF 0), .int v2]) (n := 6) (Nat.le_of_ble_eq_true rfl)
  rw [show entryFrame m args 6 = entryFrame m ([.ref (aL 0), .ref (aF 0), .int v2] : List Value).toArray 6 from by rw [hav], lg_entry_eq]
  generalize (lg_sl ([.ref (aL 0), .ref (aF 0), .int v2]) ++ List.replicate (6 - (lg_sl ([.ref (aL 0), .ref (aF 0), .int v2])).length) Slot.unset).toArray = ls at hl ⊢
  replace hl : lv_has ls 6 [(0, .ref (aL 0)), (1, .ref (aF 0)), (2, .int v2)] := hl
  have f19 := hts (.fieldLink RX5 19 "UncertainBook$Line" "at" "I") (by decide +kernel)
  have iX5 : ∀ w ∈ u_ws RX5 TX5 3, w ∈ wsX5_readBase := by decide +kernel
  refine w_q (fun Q hQ => ?_)
  unfold fX5_readBase at h
  show W p l e (rmX5_readBase dl) s m args below meth c s.heap [] 0 0 Q (F0 m 0 ls [])
  have BH_86 : ∀ (v3 : Int32) (v4 : Int32) (Lat : Int32) (Fkinds : Nat → Int32) (Flefts : Nat → Int32) (Frights : Nat → Int32) (Fplaces : Nat → Int32) (Fsize : Int32), BX5_readBase_86 Lsigns Llength v2 fP fS v3 v4 Lat Fkinds Flefts Frights Fplaces Fsize = some (r, RLat, RFkinds, RFlefts, RFrights, RFplaces, RFsize) → ∀ (H : Heap) (locs : List Loc) (ls : Array Slot), va_P D vwCl ((wL k aL Lsigns Llength Lat) ++ (wF k aF Fkinds Flefts Frights Fplaces Fvalues Fslopes Fexponents Fsize Froot)) H → va_D A ((wL k aL Lsigns Llength Lat) ++ (wF k aF Fkinds Flefts Frights Fplaces Fvalues Fslopes Fexponents Fsize Froot)) → va_S A s.heap H locs → lv_has ls 6 [(0, .ref (aL 0)), (1, .ref (aF 0)), (2, .int v2), (3, .int v3), (4, .int v4)] → W p l e (rmX5_readBase dl) s m args below meth c H locs 0 0 Q (F0 m 86 ls []) := by
    intro  v3 v4 Lat Fkinds Flefts Frights Fplaces Fsize h H locs ls hP hD hS hl
    unfold BX5_readBase_86 at h
    refine lv_aload_n hx hb dX5_readBase_86 rfl (lv_at hl 0 rfl) ?_
    refine lv_dup hx hb dX5_readBase_87 rfl ?_
    refine va_get (D := D) (ci := 5) (v := .int Lat) (C := RX5) (T := TX5) (N := 3) hx hb hts iX5 hown hK hP 0 rfl rfl 2 (by decide) f19 (fun _ h9 => h9) rfl dX5_readBase_88 ?_
    refine lv_iconst (v := 1) hx hb dX5_readBase_91 (by decide) ?_
    refine lv_iadd hx hb dX5_readBase_92 ?_
    refine va_put (D := D) (ci := 5) (v := .int (Lat + 1)) (ty := .int) (C := RX5) (T := TX5) (N := 3) hx hb hts iX5 tyX5 tyX5_ok nmX5 hown hK hP hD hS 0 rfl rfl 2 (by decide) f19 (fun _ h9 => h9) rfl (by decide +kernel) rfl rfl (Nat.le_of_ble_eq_true rfl) dX5_readBase_93 (fun H locs hP hD hS => ?_)
    replace hP : va_P D vwCl ((wL k aL Lsigns Llength (Lat + 1)) ++ (wF k aF Fkinds Flefts Frights Fplaces Fvalues Fslopes Fexponents Fsize Froot)) H := hP
    replace hD : va_D A ((wL k aL Lsigns Llength (Lat + 1)) ++ (wF k aF Fkinds Flefts Frights Fplaces Fvalues Fslopes Fexponents Fsize Froot)) := hD
    refine lv_iload_n hx hb dX5_readBase_96 rfl (lv_at hl 3 rfl) ?_
    refine lv_bipush (v := 40) hx hb dX5_readBase_97 (by decide) ?_
    refine lv_icmp_ne (tgt := 111) hx hb dX5_readBase_99 (by decide) (fun c7 => ?_) (fun c7 => ?_)
    · replace h := sf_f c7 h
      refine lv_aload_n hx hb dX5_readBase_111 rfl (lv_at hl 0 rfl) ?_
      refine lv_aload_n hx hb dX5_readBase_112 rfl (lv_at hl 1 rfl) ?_
      refine lv_iload_n hx hb dX5_readBase_113 rfl (lv_at hl 2 rfl) ?_
      refine lv_iconst (v := 1) hx hb dX5_readBase_114 (by decide) ?_
      refine lv_iadd hx hb dX5_readBase_115 ?_
      obtain ⟨r8, at__8, Fkinds_8, Flefts_8, Frights_8, Fplaces_8, Fsize_8, hc8, h⟩ := bnd7_inv h
      have hFc := va_free (wc := ((wL k aL Lsigns Llength (Lat + 1)) ++ (wF k aF Fkinds Flefts Frights Fplaces Fvalues Fslopes Fexponents Fsize Froot))) hD hS hA [0, 1, 2, 3, 4, 5, 6, 7, 8, 9] rfl
      refine xc_i (va_runV (As := [.ref (aF 0), .int (v2 + 1)]) (rest := []) ⟨hx, hb, hml, hown, hts⟩ (hfP aL aF H.size Lsigns Llength (Lat + 1) Fkinds Flefts Frights Fplaces Fvalues Fslopes Fexponents Fsize Froot (v2 + 1) r8 at__8 Fkinds_8 Flefts_8 Frights_8 Fplaces_8 Fsize_8 hc8) (cwV 2 hts gX5_readBase_X5_readPart rfl rfl rfl (by decide +kernel) ⟨by show 5 * dl + 5 + 1 ≤ 5 * dl + 9; omega, by show 8 + (6 + 11) + (150 * dl + 240) ≤ 150 * dl + 360; omega⟩) ⟨pw_blind, va_recv hK hP (ci := 5) (q0 := 0) rfl rfl, pw_start hP hK hD⟩ rfl rfl hl.1 rfl (lv_room (Nat.le_of_ble_eq_true rfl)) dX5_readBase_116 ⟨Nat.zero_le _, Nat.zero_le _⟩) hS hFc (fun H1 locs hP1 hD1 hk1 hS => ?_)
      obtain ⟨hP, hD⟩ := vj_all hFc hP1 hD1
      clear hP1 hD1 hk1 hFc
      generalize H1 = H at hP hS ⊢
      refine lv_istore (lv' := [(5, .int r8), (0, .ref (aL 0)), (1, .ref (aF 0)), (2, .int v2), (3, .int v3), (4, .int v4)]) hx hb dX5_readBase_119 hl (by decide) rfl (fun ls hl => ?_)
      refine lv_iload hx hb dX5_readBase_121 (lv_at hl 0 rfl) ?_
      refine lv_iconst (v := -1) hx hb dX5_readBase_123 (by decide) ?_
      refine lv_icmp_ne (tgt := 131) hx hb dX5_readBase_124 (by decide) (fun c9 => ?_) (fun c9 => ?_)
      · replace h := sf_f c9 h
        refine lv_aload_n hx hb dX5_readBase_131 rfl (lv_at hl 2 rfl) ?_
        refine lv_iconst (v := 2) hx hb dX5_readBase_132 (by decide) ?_
        refine lv_iload hx hb dX5_readBase_133 (lv_at hl 0 rfl) ?_
        refine lv_iconst (v := 0) hx hb dX5_readBase_135 (by decide) ?_
        refine lv_iload hx hb dX5_readBase_136 (lv_at hl 5 rfl) ?_
        obtain ⟨r10, kinds_10, lefts_10, rights_10, places_10, size_10, hc10, h⟩ := bnd6_inv h
        have hPc := hP.sub (ws' := (wF k aF Fkinds_8 Flefts_8 Frights_8 Fplaces_8 Fvalues Fslopes Fexponents Fsize_8 Froot)) [2, 3, 4, 5, 6, 7, 8, 9] rfl
        have hDc := hD.sub (ws' := (wF k aF Fkinds_8 Flefts_8 Frights_8 Fplaces_8 Fvalues Fslopes Fexponents Fsize_8 Froot)) [2, 3, 4, 5, 6, 7, 8, 9] rfl rfl
        have hFc := va_free (wc := (wF k aF Fkinds_8 Flefts_8 Frights_8 Fplaces_8 Fvalues Fslopes Fexponents Fsize_8 Froot)) hD hS hA [2, 3, 4, 5, 6, 7, 8, 9] rfl
        refine xc_i (va_runV (As := [.int 2, .int r8, .int 0, .int v4]) (rest := []) ⟨hx, hb, hml, hown, hts⟩ (met_X3_add l D k  aF H.size Fkinds_8 Flefts_8 Frights_8 Fplaces_8 Fvalues Fslopes Fexponents Fsize_8 Froot 2 r8 0 v4 r10 kinds_10 lefts_10 rights_10 places_10 size_10 hc10) (cwV 4 hts gX5_readBase_X3_add rfl rfl rfl (by decide +kernel) ⟨by show 1 + 1 ≤ 5 * dl + 9; omega, by show 8 + (6 + 11) + (24) ≤ 150 * dl + 360; omega⟩) ⟨pw_blind, va_recv hK hPc (ci := 3) (q0 := 0) rfl rfl, pw_start hPc hK hDc⟩ rfl rfl hl.1 rfl (lv_room (Nat.le_of_ble_eq_true rfl)) dX5_readBase_138 ⟨Nat.zero_le _, Nat.zero_le _⟩) hS hFc (fun H1 locs hP1 hD1 hk1 hS => ?_)
        obtain ⟨hP, hD⟩ := vj (ws' := ((wL k aL Lsigns Llength at__8) ++ (wF k aF kinds_10 lefts_10 rights_10 places_10 Fvalues Fslopes Fexponents size_10 Froot))) (w1 := (wF k aF kinds_10 lefts_10 rights_10 places_10 Fvalues Fslopes Fexponents size_10 Froot)) hP hD [2, 3, 4, 5, 6, 7, 8, 9] [0, 1] [0, 1, 2, 3, 4, 5, 6, 7, 8, 9] rfl rfl rfl rfl rfl hk1 hFc hP1 hD1
        clear hP1 hD1 hk1 hFc
        generalize H1 = H at hP hS ⊢
        have hP9 := hP
        have hD9 := hD
        have hS9 := hS
        subst hQ
        cases h
        exact W.iret hx hb hr (fun t ht hW => ⟨⟨_, (), rfl, rfl, by rw [ht]; exact hP9, va_K.moved hW.alike hK, hD9⟩, hS9.F ht⟩) hS9.2.2 dX5_readBase_141
      · replace h := sf_t c9 h
        refine lv_iconst (v := -1) hx hb dX5_readBase_127 (by decide) ?_
        refine lv_goto (tgt := 141) hx hb dX5_readBase_128 (by decide) ?_
        have hP9 := hP
        have hD9 := hD
        have hS9 := hS
        subst hQ
        cases h
        exact W.iret hx hb hr (fun t ht hW => ⟨⟨_, (), rfl, rfl, by rw [ht]; exact hP9, va_K.moved hW.alike hK, hD9⟩, hS9.F ht⟩) hS9.2.2 dX5_readBase_141
    · replace h := sf_t c7 h
      refine lv_aload_n hx hb dX5_readBase_102 rfl (lv_at hl 0 rfl) ?_
      refine lv_aload_n hx hb dX5_readBase_103 rfl (lv_at hl 1 rfl) ?_
      refine lv_iload_n hx hb dX5_readBase_104 rfl (lv_at hl 2 rfl) ?_
      refine lv_iconst (v := 1) hx hb dX5_readBase_105 (by decide) ?_
      refine lv_iadd hx hb dX5_readBase_106 ?_
      obtain ⟨r11, at__11, Fkinds_11, Flefts_11, Frights_11, Fplaces_11, Fsize_11, hc11, h⟩ := bnd7_inv h
      have hFc := va_free (wc := ((wL k aL Lsigns Llength (Lat + 1)) ++ (wF k aF Fkinds Flefts Frights Fplaces Fvalues Fslopes Fexponents Fsize Froot))) hD hS hA [0, 1, 2, 3, 4, 5, 6, 7, 8, 9] rfl
      refine xc_i (va_runV (As := [.ref (aF 0), .int (v2 + 1)]) (rest := []) ⟨hx, hb, hml, hown, hts⟩ (met_X5_readClosed l D k dl fS hfS aL aF H.size Lsigns Llength (Lat + 1) Fkinds Flefts Frights Fplaces Fvalues Fslopes Fexponents Fsize Froot (v2 + 1) r11 at__11 Fkinds_11 Flefts_11 Frights_11 Fplaces_11 Fsize_11 hc11) (cwV 2 hts gX5_readBase_X5_readClosed rfl rfl rfl (by decide +kernel) ⟨by show 5 * dl + 8 + 1 ≤ 5 * dl + 9; omega, by show 8 + (4 + 11) + (150 * dl + 330) ≤ 150 * dl + 360; omega⟩) ⟨pw_blind, va_recv hK hP (ci := 5) (q0 := 0) rfl rfl, pw_start hP hK hD⟩ rfl rfl hl.1 rfl (lv_room (Nat.le_of_ble_eq_true rfl)) dX5_readBase_107 ⟨Nat.zero_le _, Nat.zero_le _⟩) hS hFc (fun H1 locs hP1 hD1 hk1 hS => ?_)
      obtain ⟨hP, hD⟩ := vj_all hFc hP1 hD1
      clear hP1 hD1 hk1 hFc
      generalize H1 = H at hP hS ⊢
      have hP9 := hP
      have hD9 := hD
      have hS9 := hS
      subst hQ
      cases h
      exact W.iret hx hb hr (fun t ht hW => ⟨⟨_, (), rfl, rfl, by rw [ht]; exact hP9, va_K.moved hW.alike hK, hD9⟩, hS9.F ht⟩) hS9.2.2 dX5_readBase_110
  have BH_66 : ∀ (v3 : Int32) (v4 : Int32) (Lat : Int32) (Fkinds : Nat → Int32) (Flefts : Nat → Int32) (Frights : Nat → Int32) (Fplaces : Nat → Int32) (Fsize : Int32), BX5_readBase_66 Lsigns Llength v2 fP fS v3 v4 Lat Fkinds Flefts Frights Fplaces Fsize = some (r, RLat, RFkinds, RFlefts, RFrights, RFplaces, RFsize) → ∀ (H : Heap) (locs : List Loc) (ls : Array Slot), va_P D vwCl ((wL k aL Lsigns Llength Lat) ++ (wF k aF Fkinds Flefts Frights Fplaces Fvalues Fslopes Fexponents Fsize Froot)) H → va_D A ((wL k aL Lsigns Llength Lat) ++ (wF k aF Fkinds Flefts Frights Fplaces Fvalues Fslopes Fexponents Fsize Froot)) → va_S A s.heap H locs → lv_has ls 6 [(0, .ref (aL 0)), (1, .ref (aF 0)), (2, .int v2), (3, .int v3), (4, .int v4)] → W p l e (rmX5_readBase dl) s m args below meth c H locs 0 0 Q (F0 m 66 ls []) := by
    intro  v3 v4 Lat Fkinds Flefts Frights Fplaces Fsize h H locs ls hP hD hS hl
    unfold BX5_readBase_66 at h
    refine lv_iload_n hx hb dX5_readBase_66 rfl (lv_at hl 2 rfl) ?_
    refine lv_bipush (v := 7) hx hb dX5_readBase_67 (by decide) ?_
    refine lv_icmp_ge (tgt := 84) hx hb dX5_readBase_69 (by decide) (fun c5 => ?_) (fun c5 => ?_)
    · replace h := sf_t c5 h
      refine lv_iconst (v := -1) hx hb dX5_readBase_84 (by decide) ?_
      have hP9 := hP
      have hD9 := hD
      have hS9 := hS
      subst hQ
      cases h
      exact W.iret hx hb hr (fun t ht hW => ⟨⟨_, (), rfl, rfl, by rw [ht]; exact hP9, va_K.moved hW.alike hK, hD9⟩, hS9.F ht⟩) hS9.2.2 dX5_readBase_85
    · replace h := sf_f c5 h
      refine lv_iload_n hx hb dX5_readBase_72 rfl (lv_at hl 3 rfl) ?_
      refine lv_bipush (v := 45) hx hb dX5_readBase_73 (by decide) ?_
      refine lv_icmp_eq (tgt := 86) hx hb dX5_readBase_75 (by decide) (fun c6 => ?_) (fun c6 => ?_)
      · replace h := sf_t c6 h
        exact BH_86  _ _ _ _ _ _ _ _ h _ _ _ hP hD hS (lv_sub hl [0, 1, 2, 3, 4] rfl)
      · replace h := sf_f c6 h
        refine lv_iload_n hx hb dX5_readBase_78 rfl (lv_at hl 3 rfl) ?_
        refine lv_bipush (v := 40) hx hb dX5_readBase_79 (by decide) ?_
        refine lv_icmp_eq (tgt := 86) hx hb dX5_readBase_81 (by decide) (fun c12 => ?_) (fun c12 => ?_)
        · replace h := sf_t c12 h
          exact BH_86  _ _ _ _ _ _ _ _ h _ _ _ hP hD hS (lv_sub hl [0, 1, 2, 3, 4] rfl)
        · replace h := sf_f c12 h
          refine lv_iconst (v := -1) hx hb dX5_readBase_84 (by decide) ?_
          have hP9 := hP
          have hD9 := hD
          have hS9 := hS
          subst hQ
          cases h
          exact W.iret hx hb hr (fun t ht hW => ⟨⟨_, (), rfl, rfl, by rw [ht]; exact hP9, va_K.moved hW.alike hK, hD9⟩, hS9.F ht⟩) hS9.2.2 dX5_readBase_85
  suffices main : ∀ (H : Heap) (locs : List Loc) (ls : Array Slot), va_P D vwCl ((wL k aL Lsigns Llength Lat) ++ (wF k aF Fkinds Flefts Frights Fplaces Fvalues Fslopes Fexponents Fsize Froot)) H → va_D A ((wL k aL Lsigns Llength Lat) ++ (wF k aF Fkinds Flefts Frights Fplaces Fvalues Fslopes Fexponents Fsize Froot)) → va_S A s.heap H locs → lv_has ls 6 [(0, .ref (aL 0)), (1, .ref (aF 0)), (2, .int v2)] → W p l e (rmX5_readBase dl) s m args below meth c H locs 0 0 Q (F0 m 0 ls []) from main _ _ _ hP hD hS hl
  clear hP hD hS hl ls hAe
  intro H locs ls hP hD hS hl
  refine lv_aload_n hx hb dX5_readBase_0 rfl (lv_at hl 0 rfl) ?_
  obtain ⟨r1, hc1, h⟩ := bnd1_inv h
  have hPc := hP.sub (ws' := (wL k aL Lsigns Llength Lat)) [0, 1] rfl
  have hDc := hD.sub (ws' := (wL k aL Lsigns Llength Lat)) [0, 1] rfl rfl
  have hFc := va_free (wc := (wL k aL Lsigns Llength Lat)) hD hS hA [0, 1] rfl
  refine xc_i (va_runV (As := []) (rest := []) ⟨hx, hb, hml, hown, hts⟩ (met_X5_next l D k  aL H.size Lsigns Llength Lat r1 hc1) (cwV 0 hts gX5_readBase_X5_next rfl rfl rfl (by decide +kernel) ⟨by show 0 + 1 ≤ 5 * dl + 9; omega, by show 8 + (1 + 11) + (0) ≤ 150 * dl + 360; omega⟩) ⟨pw_blind, va_recv hK hPc (ci := 5) (q0 := 0) rfl rfl, pw_start hPc hK hDc⟩ rfl rfl hl.1 rfl (lv_room (Nat.le_of_ble_eq_true rfl)) dX5_readBase_1 ⟨Nat.zero_le _, Nat.zero_le _⟩) hS hFc (fun H1 locs hP1 hD1 hk1 hS => ?_)
  obtain ⟨hP, hD⟩ := vj (ws' := ((wL k aL Lsigns Llength Lat) ++ (wF k aF Fkinds Flefts Frights Fplaces Fvalues Fslopes Fexponents Fsize Froot))) (w1 := (wL k aL Lsigns Llength Lat)) hP hD [0, 1] [2, 3, 4, 5, 6, 7, 8, 9] [8, 9, 0, 1, 2, 3, 4, 5, 6, 7] rfl rfl rfl rfl rfl hk1 hFc hP1 hD1
  clear hP1 hD1 hk1 hFc
  generalize H1 = H at hP hS ⊢
  refine lv_istore_n (lv' := [(3, .int r1), (0, .ref (aL 0)), (1, .ref (aF 0)), (2, .int v2)]) hx hb dX5_readBase_4 rfl hl (by decide) rfl (fun ls hl => ?_)
  refine lv_aload_n hx hb dX5_readBase_5 rfl (lv_at hl 1 rfl) ?_
  refine va_get (D := D) (ci := 5) (v := .int Lat) (C := RX5) (T := TX5) (N := 3) hx hb hts iX5 hown hK hP 0 rfl rfl 2 (by decide) f19 (fun _ h9 => h9) rfl dX5_readBase_6 ?_
  refine lv_istore (lv' := [(4, .int Lat), (3, .int r1), (0, .ref (aL 0)), (1, .ref (aF 0)), (2, .int v2)]) hx hb dX5_readBase_9 hl (by decide) rfl (fun ls hl => ?_)
  refine lv_iload_n hx hb dX5_readBase_11 rfl (lv_at hl 1 rfl) ?_
  obtain ⟨r2, hc2, h⟩ := bnd1_inv h
  have hPc := hP.sub (ws' := ([] : va_W)) [] rfl
  have hDc := hD.sub (ws' := ([] : va_W)) [] rfl rfl
  have hFc := va_free (wc := ([] : va_W)) hD hS hA [] rfl
  refine xc_i (va_runS (As := [.int r1]) (rest := []) ⟨hx, hb, hml, hown, hts⟩ (met_X5_isDigit l D k  H.size r1 r2 hc2) (va_cwS 1 hts gX5_readBase_X5_isDigit rfl rfl rfl (by decide +kernel) ⟨by show 0 + 1 ≤ 5 * dl + 9; omega, by show 8 + (1 + 11) + (0) ≤ 150 * dl + 360; omega⟩) ⟨pw_blind, pw_start hPc hK hDc⟩ rfl rfl hl.1 rfl (lv_room (Nat.le_of_ble_eq_true rfl)) dX5_readBase_12 ⟨Nat.zero_le _, Nat.zero_le _⟩) hS hFc (fun H1 locs hP1 hD1 hk1 hS => ?_)
  obtain ⟨hP, hD⟩ := vj (ws' := ((wL k aL Lsigns Llength Lat) ++ (wF k aF Fkinds Flefts Frights Fplaces Fvalues Fslopes Fexponents Fsize Froot))) (w1 := ([] : va_W)) hP hD [] [0, 1, 2, 3, 4, 5, 6, 7, 8, 9] [0, 1, 2, 3, 4, 5, 6, 7, 8, 9] rfl rfl rfl rfl rfl hk1 hFc hP1 hD1
  clear hP1 hD1 hk1 hFc
  generalize H1 = H at hP hS ⊢
  refine lv_if_eq (tgt := 31) hx hb dX5_readBase_15 (by decide) (fun c3 => ?_) (fun c3 => ?_)
  · replace h := sf_t c3 h
    refine lv_iload_n hx hb dX5_readBase_31 rfl (lv_at hl 1 rfl) ?_
    refine lv_bipush (v := 97) hx hb dX5_readBase_32 (by decide) ?_
    refine lv_icmp_lt (tgt := 66) hx hb dX5_readBase_34 (by decide) (fun c4 => ?_) (fun c4 => ?_)
    · replace h := sf_t c4 h
      exact BH_66  _ _ _ _ _ _ _ _ h _ _ _ hP hD hS (lv_sub hl [2, 3, 4, 1, 0] rfl)
    · replace h := sf_f c4 h
      refine lv_iload_n hx hb dX5_readBase_37 rfl (lv_at hl 1 rfl) ?_
      refine lv_bipush (v := 103) hx hb dX5_readBase_38 (by decide) ?_
      refine lv_icmp_ge (tgt := 66) hx hb dX5_readBase_40 (by decide) (fun c13 => ?_) (fun c13 => ?_)
      · replace h := sf_t c13 h
        exact BH_66  _ _ _ _ _ _ _ _ h _ _ _ hP hD hS (lv_sub hl [2, 3, 4, 1, 0] rfl)
      · replace h := sf_f c13 h
        refine lv_aload_n hx hb dX5_readBase_43 rfl (lv_at hl 2 rfl) ?_
        refine lv_dup hx hb dX5_readBase_44 rfl ?_
        refine va_get (D := D) (ci := 5) (v := .int Lat) (C := RX5) (T := TX5) (N := 3) hx hb hts iX5 hown hK hP 0 rfl rfl 2 (by decide) f19 (fun _ h9 => h9) rfl dX5_readBase_45 ?_
        refine lv_iconst (v := 1) hx hb dX5_readBase_48 (by decide) ?_
        refine lv_iadd hx hb dX5_readBase_49 ?_
        refine va_put (D := D) (ci := 5) (v := .int (Lat + 1)) (ty := .int) (C := RX5) (T := TX5) (N := 3) hx hb hts iX5 tyX5 tyX5_ok nmX5 hown hK hP hD hS 0 rfl rfl 2 (by decide) f19 (fun _ h9 => h9) rfl (by decide +kernel) rfl rfl (Nat.le_of_ble_eq_true rfl) dX5_readBase_50 (fun H locs hP hD hS => ?_)
        replace hP : va_P D vwCl ((wL k aL Lsigns Llength (Lat + 1)) ++ (wF k aF Fkinds Flefts Frights Fplaces Fvalues Fslopes Fexponents Fsize Froot)) H := hP
        replace hD : va_D A ((wL k aL Lsigns Llength (Lat + 1)) ++ (wF k aF Fkinds Flefts Frights Fplaces Fvalues Fslopes Fexponents Fsize Froot)) := hD
        refine lv_aload_n hx hb dX5_readBase_53 rfl (lv_at hl 3 rfl) ?_
        refine lv_iconst (v := 1) hx hb dX5_readBase_54 (by decide) ?_
        refine lv_iload_n hx hb dX5_readBase_55 rfl (lv_at hl 1 rfl) ?_
        refine lv_bipush (v := 97) hx hb dX5_readBase_56 (by decide) ?_
        refine lv_isub hx hb dX5_readBase_58 ?_
        refine lv_iconst (v := 0) hx hb dX5_readBase_59 (by decide) ?_
        refine lv_iload hx hb dX5_readBase_60 (lv_at hl 0 rfl) ?_
        obtain ⟨r14, kinds_14, lefts_14, rights_14, places_14, size_14, hc14, h⟩ := bnd6_inv h
        have hPc := hP.sub (ws' := (wF k aF Fkinds Flefts Frights Fplaces Fvalues Fslopes Fexponents Fsize Froot)) [2, 3, 4, 5, 6, 7, 8, 9] rfl
        have hDc := hD.sub (ws' := (wF k aF Fkinds Flefts Frights Fplaces Fvalues Fslopes Fexponents Fsize Froot)) [2, 3, 4, 5, 6, 7, 8, 9] rfl rfl
        have hFc := va_free (wc := (wF k aF Fkinds Flefts Frights Fplaces Fvalues Fslopes Fexponents Fsize Froot)) hD hS hA [2, 3, 4, 5, 6, 7, 8, 9] rfl
        refine xc_i (va_runV (As := [.int 1, .int (r1 - 97), .int 0, .int Lat]) (rest := []) ⟨hx, hb, hml, hown, hts⟩ (met_X3_add l D k  aF H.size Fkinds Flefts Frights Fplaces Fvalues Fslopes Fexponents Fsize Froot 1 (r1 - 97) 0 Lat r14 kinds_14 lefts_14 rights_14 places_14 size_14 hc14) (cwV 4 hts gX5_readBase_X3_add rfl rfl rfl (by decide +kernel) ⟨by show 1 + 1 ≤ 5 * dl + 9; omega, by show 8 + (6 + 11) + (24) ≤ 150 * dl + 360; omega⟩) ⟨pw_blind, va_recv hK hPc (ci := 3) (q0 := 0) rfl rfl, pw_start hPc hK hDc⟩ rfl rfl hl.1 rfl (lv_room (Nat.le_of_ble_eq_true rfl)) dX5_readBase_62 ⟨Nat.zero_le _, Nat.zero_le _⟩) hS hFc (fun H1 locs hP1 hD1 hk1 hS => ?_)
        obtain ⟨hP, hD⟩ := vj (ws' := ((wL k aL Lsigns Llength (Lat + 1)) ++ (wF k aF kinds_14 lefts_14 rights_14 places_14 Fvalues Fslopes Fexponents size_14 Froot))) (w1 := (wF k aF kinds_14 lefts_14 rights_14 places_14 Fvalues Fslopes Fexponents size_14 Froot)) hP hD [2, 3, 4, 5, 6, 7, 8, 9] [0, 1] [0, 1, 2, 3, 4, 5, 6, 7, 8, 9] rfl rfl rfl rfl rfl hk1 hFc hP1 hD1
        clear hP1 hD1 hk1 hFc
        generalize H1 = H at hP hS ⊢
        have hP9 := hP
        have hD9 := hD
        have hS9 := hS
        subst hQ
        cases h
        exact W.iret hx hb hr (fun t ht hW => ⟨⟨_, (), rfl, rfl, by rw [ht]; exact hP9, va_K.moved hW.alike hK, hD9⟩, hS9.F ht⟩) hS9.2.2 dX5_readBase_65
  · replace h := sf_f c3 h
    refine lv_aload_n hx hb dX5_readBase_18 rfl (lv_at hl 3 rfl) ?_
    refine lv_iconst (v := 0) hx hb dX5_readBase_19 (by decide) ?_
    refine lv_aload_n hx hb dX5_readBase_20 rfl (lv_at hl 2 rfl) ?_
    obtain ⟨r15, at__15, hc15, h⟩ := bnd2_inv h
    have hPc := hP.sub (ws' := (wL k aL Lsigns Llength Lat)) [0, 1] rfl
    have hDc := hD.sub (ws' := (wL k aL Lsigns Llength Lat)) [0, 1] rfl rfl
    have hFc := va_free (wc := (wL k aL Lsigns Llength Lat)) hD hS hA [0, 1] rfl
    refine xc_i (va_runV (As := []) (rest := [.int 0, .ref (aF 0)]) ⟨hx, hb, hml, hown, hts⟩ (met_X5_readNumber l D k  aL H.size Lsigns Llength Lat r15 at__15 hc15) (cwV 0 hts gX5_readBase_X5_readNumber rfl rfl rfl (by decide +kernel) ⟨by show 1 + 1 ≤ 5 * dl + 9; omega, by show 8 + (3 + 11) + (20) ≤ 150 * dl + 360; omega⟩) ⟨pw_blind, va_recv hK hPc (ci := 5) (q0 := 0) rfl rfl, pw_start hPc hK hDc⟩ rfl rfl hl.1 rfl (lv_room (Nat.le_of_ble_eq_true rfl)) dX5_readBase_21 ⟨Nat.zero_le _, Nat.zero_le _⟩) hS hFc (fun H1 locs hP1 hD1 hk1 hS => ?_)
    obtain ⟨hP, hD⟩ := vj (ws' := ((wL k aL Lsigns Llength at__15) ++ (wF k aF Fkinds Flefts Frights Fplaces Fvalues Fslopes Fexponents Fsize Froot))) (w1 := (wL k aL Lsigns Llength at__15)) hP hD [0, 1] [2, 3, 4, 5, 6, 7, 8, 9] [8, 9, 0, 1, 2, 3, 4, 5, 6, 7] rfl rfl rfl rfl rfl hk1 hFc hP1 hD1
    clear hP1 hD1 hk1 hFc
    generalize H1 = H at hP hS ⊢
    refine lv_iconst (v := 0) hx hb dX5_readBase_24 (by decide) ?_
    refine lv_iload hx hb dX5_readBase_25 (lv_at hl 0 rfl) ?_
    obtain ⟨r16, kinds_16, lefts_16, rights_16, places_16, size_16, hc16, h⟩ := bnd6_inv h
    have hPc := hP.sub (ws' := (wF k aF Fkinds Flefts Frights Fplaces Fvalues Fslopes Fexponents Fsize Froot)) [2, 3, 4, 5, 6, 7, 8, 9] rfl
    have hDc := hD.sub (ws' := (wF k aF Fkinds Flefts Frights Fplaces Fvalues Fslopes Fexponents Fsize Froot)) [2, 3, 4, 5, 6, 7, 8, 9] rfl rfl
    have hFc := va_free (wc := (wF k aF Fkinds Flefts Frights Fplaces Fvalues Fslopes Fexponents Fsize Froot)) hD hS hA [2, 3, 4, 5, 6, 7, 8, 9] rfl
    refine xc_i (va_runV (As := [.int 0, .int r15, .int 0, .int Lat]) (rest := []) ⟨hx, hb, hml, hown, hts⟩ (met_X3_add l D k  aF H.size Fkinds Flefts Frights Fplaces Fvalues Fslopes Fexponents Fsize Froot 0 r15 0 Lat r16 kinds_16 lefts_16 rights_16 places_16 size_16 hc16) (cwV 4 hts gX5_readBase_X3_add rfl rfl rfl (by decide +kernel) ⟨by show 1 + 1 ≤ 5 * dl + 9; omega, by show 8 + (6 + 11) + (24) ≤ 150 * dl + 360; omega⟩) ⟨pw_blind, va_recv hK hPc (ci := 3) (q0 := 0) rfl rfl, pw_start hPc hK hDc⟩ rfl rfl hl.1 rfl (lv_room (Nat.le_of_ble_eq_true rfl)) dX5_readBase_27 ⟨Nat.zero_le _, Nat.zero_le _⟩) hS hFc (fun H1 locs hP1 hD1 hk1 hS => ?_)
    obtain ⟨hP, hD⟩ := vj (ws' := ((wL k aL Lsigns Llength at__15) ++ (wF k aF kinds_16 lefts_16 rights_16 places_16 Fvalues Fslopes Fexponents size_16 Froot))) (w1 := (wF k aF kinds_16 lefts_16 rights_16 places_16 Fvalues Fslopes Fexponents size_16 Froot)) hP hD [2, 3, 4, 5, 6, 7, 8, 9] [0, 1] [0, 1, 2, 3, 4, 5, 6, 7, 8, 9] rfl rfl rfl rfl rfl hk1 hFc hP1 hD1
    clear hP1 hD1 hk1 hFc
    generalize H1 = H at hP hS ⊢
    have hP9 := hP
    have hD9 := hD
    have hS9 := hS
    subst hQ
    cases h
    exact W.iret hx hb hr (fun t ht hW => ⟨⟨_, (), rfl, rfl, by rw [ht]; exact hP9, va_K.moved hW.alike hK, hD9⟩, hS9.F ht⟩) hS9.2.2 dX5_readBase_30
def fX5_readPart (v2 : Int32) (Lsigns : Nat → Int32) (Llength : Int32) (Lat : Int32) (Fkinds : Nat → Int32) (Flefts : Nat → Int32) (Frights : Nat → Int32) (Fplaces : Nat → Int32) (Fsize : Int32) (fP : TPs) (fS : TPs) : Option (Int32 × Int32 × (Nat → Int32) × (Nat → Int32) × (Nat → Int32) × (Nat → Int32) × Int32) := bnd7 (fX5_readBase v2 Lsigns Llength Lat Fkinds Flefts Frights Fplaces Fsize fP fS) (fun r1 at__1 Fkinds_1 Flefts_1 Frights_1 Fplaces_1 Fsize_1 => (if r1 = ((-1)) then some (r1, at__1, Fkinds_1, Flefts_1, Frights_1, Fplaces_1, Fsize_1) else bnd1 (fX5_next Lsigns Llength at__1) (fun r3 => (if r3 = 94 then bnd1 (fX5_next Lsigns Llength (at__1 + 1)) (fun r5 => (if r5 < 48 then some ((-1), at__1 + 1, Fkinds_1, Flefts_1, Frights_1, Fplaces_1, Fsize_1) else (if r5 ≤ 52 then bnd6 (fX3_add 6 r1 (r5 - 48) at__1 Fkinds_1 Flefts_1 Frights_1 Fplaces_1 Fsize_1) (fun r8 kinds_8 lefts_8 rights_8 places_8 size_8 => some (r8, (at__1 + 1) + 1, kinds_8, lefts_8, rights_8, places_8, size_8)) else some ((-1), at__1 + 1, Fkinds_1, Flefts_1, Frights_1, Fplaces_1, Fsize_1)))) else some (r1, at__1, Fkinds_1, Flefts_1, Frights_1, Fplaces_1, Fsize_1)))))
set_option maxHeartbeats 4000000 in
set_option maxRecDepth 100000 in
theorem met_X5_readPart (l : Launch) (D : va_G) (k : Nat → ClassId) (dl : Nat) (fP fS : TPs) (hfP : ConP l D k dl fP) (hfS : ConS l D k dl fS) (aL : Nat → Nat) (aF : Nat → Nat) (sz : Nat) (Lsigns : Nat → Int32) (Llength : Int32) (Lat : Int32) (Fkinds : Nat → Int32) (Flefts : Nat → Int32) (Frights : Nat → Int32) (Fplaces : Nat → Int32) (Fvalues : Nat → Int64) (Fslopes : Nat → Int64) (Fexponents : Nat → Int32) (Fsize : Int32) (Froot : Int32) (v2 : Int32) (r : Int32) (RLat : Int32) (RFkinds : Nat → Int32) (RFlefts : Nat → Int32) (RFrights : Nat → Int32) (RFplaces : Nat → Int32) (RFsize : Int32) (h : fX5_readPart v2 Lsigns Llength Lat Fkinds Flefts Frights Fplaces Fsize fP fS = some (r, RLat, RFkinds, RFlefts, RFrights, RFplaces, RFsize)) : Met l yX5_readPart wsX5_readPart (rmX5_readPart (dl + 1)) (va_Pc [.ref (aL 0), .ref (aF 0), .int v2] (PreW D k ((wL k aL Lsigns Llength Lat) ++ (wF k aF Fkinds Flefts Frights Fplaces Fvalues Fslopes Fexponents Fsize Froot)) sz)) (va_Qi (fun r9 (_ : Unit) => r9 = r) (fun _ t => PostW D k (va_A ((wL k aL Lsigns Llength Lat) ++ (wF k aF Fkinds Flefts Frights Fplaces Fvalues Fslopes Fexponents Fsize Froot)) sz) ((wL k aL Lsigns Llength RLat) ++ (wF k aF RFkinds RFlefts RFrights RFplaces Fvalues Fslopes Fexponents RFsize Froot)) t) (va_A ((wL k aL Lsigns Llength Lat) ++ (wF k aF Fkinds Flefts Frights Fplaces Fvalues Fslopes Fexponents Fsize Froot)) sz)) 0 0 (va_A ((wL k aL Lsigns Llength Lat) ++ (wF k aF Fkinds Flefts Frights Fplaces Fvalues Fslopes Fexponents Fsize Froot)) sz) := by
  refine Met.ofW (cc := cX5_readPart) (maxL := 6) (ret := (some .int)) (by decide) rfl ?_
  intro p e s m args below meth c s₁ B hml hv
  obtain ⟨hav, hsz, hP, hK, hD0⟩ := hv
  have hx := B.exec
  have hb := B.bytes
  have hr := B.returns
  have hts := atoms_spec (ws := wsX5_readPart) B.pre
  have hown : s.vm.findClass RX5 = some m.cls := findClass_of_methodNamed B.named
  have hlocks := B.notSynchronized
  subst hsz
  have hD := hD0.self (sz := s.heap.size)
  clear hD0
  generalize hAe : va_A ((wL k aL Lsigns Llength Lat) ++ (wF k aF Fkinds Flefts Frights Fplaces Fvalues Fslopes Fexponents Fsize Froot)) s.heap.size = A at hD ⊢
  have hA : ∀ q : Nat, s.heap.size ≤ q → A q := fun q h => by rw [← hAe]; exact Or.inr h
  have hS : va_S A s.heap s.heap [] := va_S.rf
  have hl := lv_entry ([.ref (aL 0), .ref (aF 0), .int v2]) (n := 6) (Nat.le_of_ble_eq_true rfl)
  rw [show entryFrame m args 6 = entryFrame m ([.ref (aL 0), .ref (aF 0), .int v2] : List Value).toArray 6 from by rw [hav], lg_entry_eq]
  generalize (lg_sl ([.ref (aL 0), .ref (aF 0), .int v2]) ++ List.replicate (6 - (lg_sl ([.ref (aL 0), .ref (aF 0), .int v2])).length) Slot.unset).toArray = ls at hl ⊢
  replace hl : lv_has ls 6 [(0, .ref (aL 0)), (1, .ref (aF 0)), (2, .int v2)] := hl
  have f19 := hts (.fieldLink RX5 19 "UncertainBook$Line" "at" "I") (by decide +kernel)
  have iX5 : ∀ w ∈ u_ws RX5 TX5 3, w ∈ wsX5_readPart := by decide +kernel
  refine w_q (fun Q hQ => ?_)
  unfold fX5_readPart at h
  show W p l e (rmX5_readPart (dl + 1)) s m args below meth c s.heap [] 0 0 Q (F0 m 0 ls [])
  suffices main : ∀ (H : Heap) (locs : List Loc) (ls : Array Slot), va_P D vwCl ((wL k aL Lsigns Llength Lat) ++ (wF k aF Fkinds Flefts Frights Fplaces Fvalues Fslopes Fexponents Fsize Froot)) H → va_D A ((wL k aL Lsigns Llength Lat) ++ (wF k aF Fkinds Flefts Frights Fplaces Fvalues Fslopes Fexponents Fsize Froot)) → va_S A s.heap H locs → lv_has ls 6 [(0, .ref (aL 0)), (1, .ref (aF 0)), (2, .int v2)] → W p l e (rmX5_readPart (dl + 1)) s m args below meth c H locs 0 0 Q (F0 m 0 ls []) from main _ _ _ hP hD hS hl
  clear hP hD hS hl ls hAe
  intro H locs ls hP hD hS hl
  refine lv_aload_n hx hb dX5_readPart_0 rfl (lv_at hl 0 rfl) ?_
  refine lv_aload_n hx hb dX5_readPart_1 rfl (lv_at hl 1 rfl) ?_
  refine lv_iload_n hx hb dX5_readPart_2 rfl (lv_at hl 2 rfl) ?_
  obtain ⟨r1, at__1, Fkinds_1, Flefts_1, Frights_1, Fplaces_1, Fsize_1, hc1, h⟩ := bnd7_inv h
  have hFc := va_free (wc := ((wL k aL Lsigns Llength Lat) ++ (wF k aF Fkinds Flefts Frights Fplaces Fvalues Fslopes Fexponents Fsize Froot))) hD hS hA [0, 1, 2, 3, 4, 5, 6, 7, 8, 9] rfl
  refine xc_i (va_runV (As := [.ref (aF 0), .int v2]) (rest := []) ⟨hx, hb, hml, hown, hts⟩ (met_X5_readBase l D k dl fP fS hfP hfS aL aF H.size Lsigns Llength Lat Fkinds Flefts Frights Fplaces Fvalues Fslopes Fexponents Fsize Froot v2 r1 at__1 Fkinds_1 Flefts_1 Frights_1 Fplaces_1 Fsize_1 hc1) (cwV 2 hts gX5_readPart_X5_readBase rfl rfl rfl (by decide +kernel) ⟨by show 5 * dl + 9 + 1 ≤ 5 * (dl + 1) + 5; omega, by show 8 + (6 + 11) + (150 * dl + 360) ≤ 150 * (dl + 1) + 240; omega⟩) ⟨pw_blind, va_recv hK hP (ci := 5) (q0 := 0) rfl rfl, pw_start hP hK hD⟩ rfl rfl hl.1 rfl (lv_room (Nat.le_of_ble_eq_true rfl)) dX5_readPart_3 ⟨Nat.zero_le _, Nat.zero_le _⟩) hS hFc (fun H1 locs hP1 hD1 hk1 hS => ?_)
  obtain ⟨hP, hD⟩ := vj_all hFc hP1 hD1
  clear hP1 hD1 hk1 hFc
  generalize H1 = H at hP hS ⊢
  refine lv_istore_n (lv' := [(3, .int r1), (0, .ref (aL 0)), (1, .ref (aF 0)), (2, .int v2)]) hx hb dX5_readPart_6 rfl hl (by decide) rfl (fun ls hl => ?_)
  refine lv_iload_n hx hb dX5_readPart_7 rfl (lv_at hl 0 rfl) ?_
  refine lv_iconst (v := -1) hx hb dX5_readPart_8 (by decide) ?_
  refine lv_icmp_eq (tgt := 21) hx hb dX5_readPart_9 (by decide) (fun c2 => ?_) (fun c2 => ?_)
  · replace h := sf_t c2 h
    refine lv_iload_n hx hb dX5_readPart_21 rfl (lv_at hl 0 rfl) ?_
    have hP9 := hP
    have hD9 := hD
    have hS9 := hS
    subst hQ
    cases h
    exact W.iret hx hb hr (fun t ht hW => ⟨⟨_, (), rfl, rfl, by rw [ht]; exact hP9, va_K.moved hW.alike hK, hD9⟩, hS9.F ht⟩) hS9.2.2 dX5_readPart_22
  · replace h := sf_f c2 h
    refine lv_aload_n hx hb dX5_readPart_12 rfl (lv_at hl 1 rfl) ?_
    obtain ⟨r3, hc3, h⟩ := bnd1_inv h
    have hPc := hP.sub (ws' := (wL k aL Lsigns Llength at__1)) [0, 1] rfl
    have hDc := hD.sub (ws' := (wL k aL Lsigns Llength at__1)) [0, 1] rfl rfl
    have hFc := va_free (wc := (wL k aL Lsigns Llength at__1)) hD hS hA [0, 1] rfl
    refine xc_i (va_runV (As := []) (rest := []) ⟨hx, hb, hml, hown, hts⟩ (met_X5_next l D k  aL H.size Lsigns Llength at__1 r3 hc3) (cwV 0 hts gX5_readPart_X5_next rfl rfl rfl (by decide +kernel) ⟨by show 0 + 1 ≤ 5 * (dl + 1) + 5; omega, by show 8 + (1 + 11) + (0) ≤ 150 * (dl + 1) + 240; omega⟩) ⟨pw_blind, va_recv hK hPc (ci := 5) (q0 := 0) rfl rfl, pw_start hPc hK hDc⟩ rfl rfl hl.1 rfl (lv_room (Nat.le_of_ble_eq_true rfl)) dX5_readPart_13 ⟨Nat.zero_le _, Nat.zero_le _⟩) hS hFc (fun H1 locs hP1 hD1 hk1 hS => ?_)
    obtain ⟨hP, hD⟩ := vj (ws' := ((wL k aL Lsigns Llength at__1) ++ (wF k aF Fkinds_1 Flefts_1 Frights_1 Fplaces_1 Fvalues Fslopes Fexponents Fsize_1 Froot))) (w1 := (wL k aL Lsigns Llength at__1)) hP hD [0, 1] [2, 3, 4, 5, 6, 7, 8, 9] [8, 9, 0, 1, 2, 3, 4, 5, 6, 7] rfl rfl rfl rfl rfl hk1 hFc hP1 hD1
    clear hP1 hD1 hk1 hFc
    generalize H1 = H at hP hS ⊢
    refine lv_bipush (v := 94) hx hb dX5_readPart_16 (by decide) ?_
    refine lv_icmp_eq (tgt := 23) hx hb dX5_readPart_18 (by decide) (fun c4 => ?_) (fun c4 => ?_)
    · replace h := sf_t c4 h
      refine lv_aload_n hx hb dX5_readPart_23 rfl (lv_at hl 1 rfl) ?_
      refine va_get (D := D) (ci := 5) (v := .int at__1) (C := RX5) (T := TX5) (N := 3) hx hb hts iX5 hown hK hP 0 rfl rfl 2 (by decide) f19 (fun _ h9 => h9) rfl dX5_readPart_24 ?_
      refine lv_istore (lv' := [(4, .int at__1), (3, .int r1), (0, .ref (aL 0)), (1, .ref (aF 0)), (2, .int v2)]) hx hb dX5_readPart_27 hl (by decide) rfl (fun ls hl => ?_)
      refine lv_aload_n hx hb dX5_readPart_29 rfl (lv_at hl 2 rfl) ?_
      refine lv_dup hx hb dX5_readPart_30 rfl ?_
      refine va_get (D := D) (ci := 5) (v := .int at__1) (C := RX5) (T := TX5) (N := 3) hx hb hts iX5 hown hK hP 0 rfl rfl 2 (by decide) f19 (fun _ h9 => h9) rfl dX5_readPart_31 ?_
      refine lv_iconst (v := 1) hx hb dX5_readPart_34 (by decide) ?_
      refine lv_iadd hx hb dX5_readPart_35 ?_
      refine va_put (D := D) (ci := 5) (v := .int (at__1 + 1)) (ty := .int) (C := RX5) (T := TX5) (N := 3) hx hb hts iX5 tyX5 tyX5_ok nmX5 hown hK hP hD hS 0 rfl rfl 2 (by decide) f19 (fun _ h9 => h9) rfl (by decide +kernel) rfl rfl (Nat.le_of_ble_eq_true rfl) dX5_readPart_36 (fun H locs hP hD hS => ?_)
      replace hP : va_P D vwCl ((wL k aL Lsigns Llength (at__1 + 1)) ++ (wF k aF Fkinds_1 Flefts_1 Frights_1 Fplaces_1 Fvalues Fslopes Fexponents Fsize_1 Froot)) H := hP
      replace hD : va_D A ((wL k aL Lsigns Llength (at__1 + 1)) ++ (wF k aF Fkinds_1 Flefts_1 Frights_1 Fplaces_1 Fvalues Fslopes Fexponents Fsize_1 Froot)) := hD
      refine lv_aload_n hx hb dX5_readPart_39 rfl (lv_at hl 2 rfl) ?_
      obtain ⟨r5, hc5, h⟩ := bnd1_inv h
      have hPc := hP.sub (ws' := (wL k aL Lsigns Llength (at__1 + 1))) [0, 1] rfl
      have hDc := hD.sub (ws' := (wL k aL Lsigns Llength (at__1 + 1))) [0, 1] rfl rfl
      have hFc := va_free (wc := (wL k aL Lsigns Llength (at__1 + 1))) hD hS hA [0, 1] rfl
      refine xc_i (va_runV (As := []) (rest := []) ⟨hx, hb, hml, hown, hts⟩ (met_X5_next l D k  aL H.size Lsigns Llength (at__1 + 1) r5 hc5) (cwV 0 hts gX5_readPart_X5_next rfl rfl rfl (by decide +kernel) ⟨by show 0 + 1 ≤ 5 * (dl + 1) + 5; omega, by show 8 + (1 + 11) + (0) ≤ 150 * (dl + 1) + 240; omega⟩) ⟨pw_blind, va_recv hK hPc (ci := 5) (q0 := 0) rfl rfl, pw_start hPc hK hDc⟩ rfl rfl hl.1 rfl (lv_room (Nat.le_of_ble_eq_true rfl)) dX5_readPart_40 ⟨Nat.zero_le _, Nat.zero_le _⟩) hS hFc (fun H1 locs hP1 hD1 hk1 hS => ?_)
      obtain ⟨hP, hD⟩ := vj (ws' := ((wL k aL Lsigns Llength (at__1 + 1)) ++ (wF k aF Fkinds_1 Flefts_1 Frights_1 Fplaces_1 Fvalues Fslopes Fexponents Fsize_1 Froot))) (w1 := (wL k aL Lsigns Llength (at__1 + 1))) hP hD [0, 1] [2, 3, 4, 5, 6, 7, 8, 9] [8, 9, 0, 1, 2, 3, 4, 5, 6, 7] rfl rfl rfl rfl rfl hk1 hFc hP1 hD1
      clear hP1 hD1 hk1 hFc
      generalize H1 = H at hP hS ⊢
      refine lv_istore (lv' := [(5, .int r5), (4, .int at__1), (3, .int r1), (0, .ref (aL 0)), (1, .ref (aF 0)), (2, .int v2)]) hx hb dX5_readPart_43 hl (by decide) rfl (fun ls hl => ?_)
      refine lv_iload hx hb dX5_readPart_45 (lv_at hl 0 rfl) ?_
      refine lv_bipush (v := 48) hx hb dX5_readPart_47 (by decide) ?_
      refine lv_icmp_lt (tgt := 59) hx hb dX5_readPart_49 (by decide) (fun c6 => ?_) (fun c6 => ?_)
      · replace h := sf_t c6 h
        refine lv_iconst (v := -1) hx hb dX5_readPart_59 (by decide) ?_
        have hP9 := hP
        have hD9 := hD
        have hS9 := hS
        subst hQ
        cases h
        exact W.iret hx hb hr (fun t ht hW => ⟨⟨_, (), rfl, rfl, by rw [ht]; exact hP9, va_K.moved hW.alike hK, hD9⟩, hS9.F ht⟩) hS9.2.2 dX5_readPart_60
      · replace h := sf_f c6 h
        refine lv_iload hx hb dX5_readPart_52 (lv_at hl 0 rfl) ?_
        refine lv_bipush (v := 52) hx hb dX5_readPart_54 (by decide) ?_
        refine lv_icmp_le (tgt := 61) hx hb dX5_readPart_56 (by decide) (fun c7 => ?_) (fun c7 => ?_)
        · replace h := sf_t c7 h
          refine lv_aload_n hx hb dX5_readPart_61 rfl (lv_at hl 3 rfl) ?_
          refine lv_dup hx hb dX5_readPart_62 rfl ?_
          refine va_get (D := D) (ci := 5) (v := .int (at__1 + 1)) (C := RX5) (T := TX5) (N := 3) hx hb hts iX5 hown hK hP 0 rfl rfl 2 (by decide) f19 (fun _ h9 => h9) rfl dX5_readPart_63 ?_
          refine lv_iconst (v := 1) hx hb dX5_readPart_66 (by decide) ?_
          refine lv_iadd hx hb dX5_readPart_67 ?_
          refine va_put (D := D) (ci := 5) (v := .int ((at__1 + 1) + 1)) (ty := .int) (C := RX5) (T := TX5) (N := 3) hx hb hts iX5 tyX5 tyX5_ok nmX5 hown hK hP hD hS 0 rfl rfl 2 (by decide) f19 (fun _ h9 => h9) rfl (by decide +kernel) rfl rfl (Nat.le_of_ble_eq_true rfl) dX5_readPart_68 (fun H locs hP hD hS => ?_)
          replace hP : va_P D vwCl ((wL k aL Lsigns Llength ((at__1 + 1) + 1)) ++ (wF k aF Fkinds_1 Flefts_1 Frights_1 Fplaces_1 Fvalues Fslopes Fexponents Fsize_1 Froot)) H := hP
          replace hD : va_D A ((wL k aL Lsigns Llength ((at__1 + 1) + 1)) ++ (wF k aF Fkinds_1 Flefts_1 Frights_1 Fplaces_1 Fvalues Fslopes Fexponents Fsize_1 Froot)) := hD
          refine lv_aload_n hx hb dX5_readPart_71 rfl (lv_at hl 4 rfl) ?_
          refine lv_bipush (v := 6) hx hb dX5_readPart_72 (by decide) ?_
          refine lv_iload_n hx hb dX5_readPart_74 rfl (lv_at hl 2 rfl) ?_
          refine lv_iload hx hb dX5_readPart_75 (lv_at hl 0 rfl) ?_
          refine lv_bipush (v := 48) hx hb dX5_readPart_77 (by decide) ?_
          refine lv_isub hx hb dX5_readPart_79 ?_
          refine lv_iload hx hb dX5_readPart_80 (lv_at hl 1 rfl) ?_
          obtain ⟨r8, kinds_8, lefts_8, rights_8, places_8, size_8, hc8, h⟩ := bnd6_inv h
          have hPc := hP.sub (ws' := (wF k aF Fkinds_1 Flefts_1 Frights_1 Fplaces_1 Fvalues Fslopes Fexponents Fsize_1 Froot)) [2, 3, 4, 5, 6, 7, 8, 9] rfl
          have hDc := hD.sub (ws' := (wF k aF Fkinds_1 Flefts_1 Frights_1 Fplaces_1 Fvalues Fslopes Fexponents Fsize_1 Froot)) [2, 3, 4, 5, 6, 7, 8, 9] rfl rfl
          have hFc := va_free (wc := (wF k aF Fkinds_1 Flefts_1 Frights_1 Fplaces_1 Fvalues Fslopes Fexponents Fsize_1 Froot)) hD hS hA [2, 3, 4, 5, 6, 7, 8, 9] rfl
          refine xc_i (va_runV (As := [.int 6, .int r1, .int (r5 - 48), .int at__1]) (rest := []) ⟨hx, hb, hml, hown, hts⟩ (met_X3_add l D k  aF H.size Fkinds_1 Flefts_1 Frights_1 Fplaces_1 Fvalues Fslopes Fexponents Fsize_1 Froot 6 r1 (r5 - 48) at__1 r8 kinds_8 lefts_8 rights_8 places_8 size_8 hc8) (cwV 4 hts gX5_readPart_X3_add rfl rfl rfl (by decide +kernel) ⟨by show 1 + 1 ≤ 5 * (dl + 1) + 5; omega, by show 8 + (6 + 11) + (24) ≤ 150 * (dl + 1) + 240; omega⟩) ⟨pw_blind, va_recv hK hPc (ci := 3) (q0 := 0) rfl rfl, pw_start hPc hK hDc⟩ rfl rfl hl.1 rfl (lv_room (Nat.le_of_ble_eq_true rfl)) dX5_readPart_82 ⟨Nat.zero_le _, Nat.zero_le _⟩) hS hFc (fun H1 locs hP1 hD1 hk1 hS => ?_)
          obtain ⟨hP, hD⟩ := vj (ws' := ((wL k aL Lsigns Llength ((at__1 + 1) + 1)) ++ (wF k aF kinds_8 lefts_8 rights_8 places_8 Fvalues Fslopes Fexponents size_8 Froot))) (w1 := (wF k aF kinds_8 lefts_8 rights_8 places_8 Fvalues Fslopes Fexponents size_8 Froot)) hP hD [2, 3, 4, 5, 6, 7, 8, 9] [0, 1] [0, 1, 2, 3, 4, 5, 6, 7, 8, 9] rfl rfl rfl rfl rfl hk1 hFc hP1 hD1
          clear hP1 hD1 hk1 hFc
          generalize H1 = H at hP hS ⊢
          have hP9 := hP
          have hD9 := hD
          have hS9 := hS
          subst hQ
          cases h
          exact W.iret hx hb hr (fun t ht hW => ⟨⟨_, (), rfl, rfl, by rw [ht]; exact hP9, va_K.moved hW.alike hK, hD9⟩, hS9.F ht⟩) hS9.2.2 dX5_readPart_85
        · replace h := sf_f c7 h
          refine lv_iconst (v := -1) hx hb dX5_readPart_59 (by decide) ?_
          have hP9 := hP
          have hD9 := hD
          have hS9 := hS
          subst hQ
          cases h
          exact W.iret hx hb hr (fun t ht hW => ⟨⟨_, (), rfl, rfl, by rw [ht]; exact hP9, va_K.moved hW.alike hK, hD9⟩, hS9.F ht⟩) hS9.2.2 dX5_readPart_60
    · replace h := sf_f c4 h
      refine lv_iload_n hx hb dX5_readPart_21 rfl (lv_at hl 0 rfl) ?_
      have hP9 := hP
      have hD9 := hD
      have hS9 := hS
      subst hQ
      cases h
      exact W.iret hx hb hr (fun t ht hW => ⟨⟨_, (), rfl, rfl, by rw [ht]; exact hP9, va_K.moved hW.alike hK, hD9⟩, hS9.F ht⟩) hS9.2.2 dX5_readPart_22
def LX5_readTerm_7 (Lsigns : Nat → Int32) (Llength : Int32) (v2 : Int32) (fP : TPs) (fS : TPs) (E80 : Int32 → Int32 → (Nat → Int32) → (Nat → Int32) → (Nat → Int32) → (Nat → Int32) → Int32 → Option (Int32 × Int32 × (Nat → Int32) × (Nat → Int32) × (Nat → Int32) × (Nat → Int32) × Int32)) : Nat → Int32 → Int32 → (Nat → Int32) → (Nat → Int32) → (Nat → Int32) → (Nat → Int32) → Int32 → Option (Int32 × Int32 × (Nat → Int32) × (Nat → Int32) × (Nat → Int32) × (Nat → Int32) × Int32)
  | 0, _, _, _, _, _, _, _ => none
  | fuel + 1, v3, Lat, Fkinds, Flefts, Frights, Fplaces, Fsize => (if v3 = ((-1)) then E80 v3 Lat Fkinds Flefts Frights Fplaces Fsize else (if Llength ≤ Lat then E80 v3 Lat Fkinds Flefts Frights Fplaces Fsize else bnd1 (fX5_next Lsigns Llength Lat) (fun r4 => (if r4 = 42 then bnd7 (fX5_readPart v2 Lsigns Llength (Lat + 1) Fkinds Flefts Frights Fplaces Fsize fP fS) (fun r6 at__6 Fkinds_6 Flefts_6 Frights_6 Fplaces_6 Fsize_6 => (if r6 = ((-1)) then LX5_readTerm_7 Lsigns Llength v2 fP fS E80 fuel ((-1)) at__6 Fkinds_6 Flefts_6 Frights_6 Fplaces_6 Fsize_6 else bnd6 (fX3_add 5 v3 r6 Lat Fkinds_6 Flefts_6 Frights_6 Fplaces_6 Fsize_6) (fun r8 kinds_8 lefts_8 rights_8 places_8 size_8 => LX5_readTerm_7 Lsigns Llength v2 fP fS E80 fuel r8 at__6 kinds_8 lefts_8 rights_8 places_8 size_8))) else E80 v3 Lat Fkinds Flefts Frights Fplaces Fsize))))
def fX5_readTerm (v2 : Int32) (Lsigns : Nat → Int32) (Llength : Int32) (Lat : Int32) (Fkinds : Nat → Int32) (Flefts : Nat → Int32) (Frights : Nat → Int32) (Fplaces : Nat → Int32) (Fsize : Int32) (fP : TPs) (fS : TPs) : Option (Int32 × Int32 × (Nat → Int32) × (Nat → Int32) × (Nat → Int32) × (Nat → Int32) × Int32) := bnd7 (fX5_readPart v2 Lsigns Llength Lat Fkinds Flefts Frights Fplaces Fsize fP fS) (fun r1 at__1 Fkinds_1 Flefts_1 Frights_1 Fplaces_1 Fsize_1 => LX5_readTerm_7 Lsigns Llength v2 fP fS (fun (v3 : Int32) (Lat : Int32) (Fkinds : Nat → Int32) (Flefts : Nat → Int32) (Frights : Nat → Int32) (Fplaces : Nat → Int32) (Fsize : Int32) => some (v3, Lat, Fkinds, Flefts, Frights, Fplaces, Fsize)) 1000 r1 at__1 Fkinds_1 Flefts_1 Frights_1 Fplaces_1 Fsize_1)
set_option maxHeartbeats 4000000 in
set_option maxRecDepth 100000 in
theorem met_X5_readTerm (l : Launch) (D : va_G) (k : Nat → ClassId) (dl : Nat) (fP fS : TPs) (hfP : ConP l D k dl fP) (hfS : ConS l D k dl fS) (aL : Nat → Nat) (aF : Nat → Nat) (sz : Nat) (Lsigns : Nat → Int32) (Llength : Int32) (Lat : Int32) (Fkinds : Nat → Int32) (Flefts : Nat → Int32) (Frights : Nat → Int32) (Fplaces : Nat → Int32) (Fvalues : Nat → Int64) (Fslopes : Nat → Int64) (Fexponents : Nat → Int32) (Fsize : Int32) (Froot : Int32) (v2 : Int32) (r : Int32) (RLat : Int32) (RFkinds : Nat → Int32) (RFlefts : Nat → Int32) (RFrights : Nat → Int32) (RFplaces : Nat → Int32) (RFsize : Int32) (h : fX5_readTerm v2 Lsigns Llength Lat Fkinds Flefts Frights Fplaces Fsize fP fS = some (r, RLat, RFkinds, RFlefts, RFrights, RFplaces, RFsize)) : Met l yX5_readTerm wsX5_readTerm (rmX5_readTerm (dl + 1)) (va_Pc [.ref (aL 0), .ref (aF 0), .int v2] (PreW D k ((wL k aL Lsigns Llength Lat) ++ (wF k aF Fkinds Flefts Frights Fplaces Fvalues Fslopes Fexponents Fsize Froot)) sz)) (va_Qi (fun r9 (_ : Unit) => r9 = r) (fun _ t => PostW D k (va_A ((wL k aL Lsigns Llength Lat) ++ (wF k aF Fkinds Flefts Frights Fplaces Fvalues Fslopes Fexponents Fsize Froot)) sz) ((wL k aL Lsigns Llength RLat) ++ (wF k aF RFkinds RFlefts RFrights RFplaces Fvalues Fslopes Fexponents RFsize Froot)) t) (va_A ((wL k aL Lsigns Llength Lat) ++ (wF k aF Fkinds Flefts Frights Fplaces Fvalues Fslopes Fexponents Fsize Froot)) sz)) 0 0 (va_A ((wL k aL Lsigns Llength Lat) ++ (wF k aF Fkinds Flefts Frights Fplaces Fvalues Fslopes Fexponents Fsize Froot)) sz) := by
  refine Met.ofW (cc := cX5_readTerm) (maxL := 6) (ret := (some .int)) (by decide) rfl ?_
  intro p e s m args below meth c s₁ B hml hv
  obtain ⟨hav, hsz, hP, hK, hD0⟩ := hv
  have hx := B.exec
  have hb := B.bytes
  have hr := B.returns
  have hts := atoms_spec (ws := wsX5_readTerm) B.pre
  have hown : s.vm.findClass RX5 = some m.cls := findClass_of_methodNamed B.named
  have hlocks := B.notSynchronized
  subst hsz
  have hD := hD0.self (sz := s.heap.size)
  clear hD0
  generalize hAe : va_A ((wL k aL Lsigns Llength Lat) ++ (wF k aF Fkinds Flefts Frights Fplaces Fvalues Fslopes Fexponents Fsize Froot)) s.heap.size = A at hD ⊢
  have hA : ∀ q : Nat, s.heap.size ≤ q → A q := fun q h => by rw [← hAe]; exact Or.inr h
  have hS : va_S A s.heap s.heap [] := va_S.rf
  have hl := lv_entry ([.ref (aL 0), .ref (aF 0), .int v2]) (n := 6) (Nat.le_of_ble_eq_true rfl)
  rw [show entryFrame m args 6 = entryFrame m ([.ref (aL 0), .ref (aF 0), .int v2] : List Value).toArray 6 from by rw [hav], lg_entry_eq]
  generalize (lg_sl ([.ref (aL 0), .ref (aF 0), .int v2]) ++ List.replicate (6 - (lg_sl ([.ref (aL 0), .ref (aF 0), .int v2])).length) Slot.unset).toArray = ls at hl ⊢
  replace hl : lv_has ls 6 [(0, .ref (aL 0)), (1, .ref (aF 0)), (2, .int v2)] := hl
  have f15 := hts (.fieldLink RX5 15 "UncertainBook$Line" "length" "I") (by decide +kernel)
  have f19 := hts (.fieldLink RX5 19 "UncertainBook$Line" "at" "I") (by decide +kernel)
  have iX5 : ∀ w ∈ u_ws RX5 TX5 3, w ∈ wsX5_readTerm := by decide +kernel
  refine w_q (fun Q hQ => ?_)
  unfold fX5_readTerm at h
  show W p l e (rmX5_readTerm (dl + 1)) s m args below meth c s.heap [] 0 0 Q (F0 m 0 ls [])
  have LH_7 : ∀ (E80 : Int32 → Int32 → (Nat → Int32) → (Nat → Int32) → (Nat → Int32) → (Nat → Int32) → Int32 → Option (Int32 × Int32 × (Nat → Int32) × (Nat → Int32) × (Nat → Int32) × (Nat → Int32) × Int32)) (hE80 : ∀ (v3 : Int32) (Lat : Int32) (Fkinds : Nat → Int32) (Flefts : Nat → Int32) (Frights : Nat → Int32) (Fplaces : Nat → Int32) (Fsize : Int32), E80 v3 Lat Fkinds Flefts Frights Fplaces Fsize = some (r, RLat, RFkinds, RFlefts, RFrights, RFplaces, RFsize) → ∀ (H : Heap) (locs : List Loc) (ls : Array Slot), va_P D vwCl ((wL k aL Lsigns Llength Lat) ++ (wF k aF Fkinds Flefts Frights Fplaces Fvalues Fslopes Fexponents Fsize Froot)) H → va_D A ((wL k aL Lsigns Llength Lat) ++ (wF k aF Fkinds Flefts Frights Fplaces Fvalues Fslopes Fexponents Fsize Froot)) → va_S A s.heap H locs → lv_has ls 6 [(3, .int v3)] → W p l e (rmX5_readTerm (dl + 1)) s m args below meth c H locs 0 0 Q (F0 m 80 ls [])) (n : Nat) (v3 : Int32) (Lat : Int32) (Fkinds : Nat → Int32) (Flefts : Nat → Int32) (Frights : Nat → Int32) (Fplaces : Nat → Int32) (Fsize : Int32), LX5_readTerm_7 Lsigns Llength v2 fP fS E80 n v3 Lat Fkinds Flefts Frights Fplaces Fsize = some (r, RLat, RFkinds, RFlefts, RFrights, RFplaces, RFsize) → ∀ (H : Heap) (locs : List Loc) (ls : Array Slot), va_P D vwCl ((wL k aL Lsigns Llength Lat) ++ (wF k aF Fkinds Flefts Frights Fplaces Fvalues Fslopes Fexponents Fsize Froot)) H → va_D A ((wL k aL Lsigns Llength Lat) ++ (wF k aF Fkinds Flefts Frights Fplaces Fvalues Fslopes Fexponents Fsize Froot)) → va_S A s.heap H locs → lv_has ls 6 [(0, .ref (aL 0)), (1, .ref (aF 0)), (2, .int v2), (3, .int v3)] → W p l e (rmX5_readTerm (dl + 1)) s m args below meth c H locs 0 0 Q (F0 m 7 ls []) := by
    intro E80 hE80 n
    induction n with
    | zero => intro v3 Lat Fkinds Flefts Frights Fplaces Fsize h; simp [LX5_readTerm_7] at h
    | succ n ih =>
    intro v3 Lat Fkinds Flefts Frights Fplaces Fsize h H locs ls hP hD hS hl
    rw [LX5_readTerm_7] at h
    refine lv_iload_n hx hb dX5_readTerm_7 rfl (lv_at hl 3 rfl) ?_
    refine lv_iconst (v := -1) hx hb dX5_readTerm_8 (by decide) ?_
    refine lv_icmp_eq (tgt := 80) hx hb dX5_readTerm_9 (by decide) (fun c2 => ?_) (fun c2 => ?_)
    · replace h := sf_t c2 h
      exact hE80 _ _ _ _ _ _ _ h _ _ _ hP hD hS (lv_sub hl [3] rfl)
    · replace h := sf_f c2 h
      refine lv_aload_n hx hb dX5_readTerm_12 rfl (lv_at hl 0 rfl) ?_
      refine va_get (D := D) (ci := 5) (v := .int Lat) (C := RX5) (T := TX5) (N := 3) hx hb hts iX5 hown hK hP 0 rfl rfl 2 (by decide) f19 (fun _ h9 => h9) rfl dX5_readTerm_13 ?_
      refine lv_aload_n hx hb dX5_readTerm_16 rfl (lv_at hl 0 rfl) ?_
      refine va_get (D := D) (ci := 5) (v := .int Llength) (C := RX5) (T := TX5) (N := 3) hx hb hts iX5 hown hK hP 0 rfl rfl 1 (by decide) f15 (fun _ h9 => h9) rfl dX5_readTerm_17 ?_
      refine lv_icmp_ge (tgt := 80) hx hb dX5_readTerm_20 (by decide) (fun c3 => ?_) (fun c3 => ?_)
      · replace h := sf_t c3 h
        exact hE80 _ _ _ _ _ _ _ h _ _ _ hP hD hS (lv_sub hl [3] rfl)
      · replace h := sf_f c3 h
        refine lv_aload_n hx hb dX5_readTerm_23 rfl (lv_at hl 0 rfl) ?_
        obtain ⟨r4, hc4, h⟩ := bnd1_inv h
        have hPc := hP.sub (ws' := (wL k aL Lsigns Llength Lat)) [0, 1] rfl
        have hDc := hD.sub (ws' := (wL k aL Lsigns Llength Lat)) [0, 1] rfl rfl
        have hFc := va_free (wc := (wL k aL Lsigns Llength Lat)) hD hS hA [0, 1] rfl
        refine xc_i (va_runV (As := []) (rest := []) ⟨hx, hb, hml, hown, hts⟩ (met_X5_next l D k  aL H.size Lsigns Llength Lat r4 hc4) (cwV 0 hts gX5_readTerm_X5_next rfl rfl rfl (by decide +kernel) ⟨by show 0 + 1 ≤ 5 * (dl + 1) + 6; omega, by show 8 + (1 + 11) + (0) ≤ 150 * (dl + 1) + 270; omega⟩) ⟨pw_blind, va_recv hK hPc (ci := 5) (q0 := 0) rfl rfl, pw_start hPc hK hDc⟩ rfl rfl hl.1 rfl (lv_room (Nat.le_of_ble_eq_true rfl)) dX5_readTerm_24 ⟨Nat.zero_le _, Nat.zero_le _⟩) hS hFc (fun H1 locs hP1 hD1 hk1 hS => ?_)
        obtain ⟨hP, hD⟩ := vj (ws' := ((wL k aL Lsigns Llength Lat) ++ (wF k aF Fkinds Flefts Frights Fplaces Fvalues Fslopes Fexponents Fsize Froot))) (w1 := (wL k aL Lsigns Llength Lat)) hP hD [0, 1] [2, 3, 4, 5, 6, 7, 8, 9] [8, 9, 0, 1, 2, 3, 4, 5, 6, 7] rfl rfl rfl rfl rfl hk1 hFc hP1 hD1
        clear hP1 hD1 hk1 hFc
        generalize H1 = H at hP hS ⊢
        refine lv_bipush (v := 42) hx hb dX5_readTerm_27 (by decide) ?_
        refine lv_icmp_ne (tgt := 80) hx hb dX5_readTerm_29 (by decide) (fun c5 => ?_) (fun c5 => ?_)
        · replace h := sf_f c5 h
          exact hE80 _ _ _ _ _ _ _ h _ _ _ hP hD hS (lv_sub hl [3] rfl)
        · replace h := sf_t c5 h
          refine lv_aload_n hx hb dX5_readTerm_32 rfl (lv_at hl 0 rfl) ?_
          refine va_get (D := D) (ci := 5) (v := .int Lat) (C := RX5) (T := TX5) (N := 3) hx hb hts iX5 hown hK hP 0 rfl rfl 2 (by decide) f19 (fun _ h9 => h9) rfl dX5_readTerm_33 ?_
          refine lv_istore (lv' := [(4, .int Lat), (0, .ref (aL 0)), (1, .ref (aF 0)), (2, .int v2), (3, .int v3)]) hx hb dX5_readTerm_36 hl (by decide) rfl (fun ls hl => ?_)
          refine lv_aload_n hx hb dX5_readTerm_38 rfl (lv_at hl 1 rfl) ?_
          refine lv_dup hx hb dX5_readTerm_39 rfl ?_
          refine va_get (D := D) (ci := 5) (v := .int Lat) (C := RX5) (T := TX5) (N := 3) hx hb hts iX5 hown hK hP 0 rfl rfl 2 (by decide) f19 (fun _ h9 => h9) rfl dX5_readTerm_40 ?_
          refine lv_iconst (v := 1) hx hb dX5_readTerm_43 (by decide) ?_
          refine lv_iadd hx hb dX5_readTerm_44 ?_
          refine va_put (D := D) (ci := 5) (v := .int (Lat + 1)) (ty := .int) (C := RX5) (T := TX5) (N := 3) hx hb hts iX5 tyX5 tyX5_ok nmX5 hown hK hP hD hS 0 rfl rfl 2 (by decide) f19 (fun _ h9 => h9) rfl (by decide +kernel) rfl rfl (Nat.le_of_ble_eq_true rfl) dX5_readTerm_45 (fun H locs hP hD hS => ?_)
          replace hP : va_P D vwCl ((wL k aL Lsigns Llength (Lat + 1)) ++ (wF k aF Fkinds Flefts Frights Fplaces Fvalues Fslopes Fexponents Fsize Froot)) H := hP
          replace hD : va_D A ((wL k aL Lsigns Llength (Lat + 1)) ++ (wF k aF Fkinds Flefts Frights Fplaces Fvalues Fslopes Fexponents Fsize Froot)) := hD
          refine lv_aload_n hx hb dX5_readTerm_48 rfl (lv_at hl 1 rfl) ?_
          refine lv_aload_n hx hb dX5_readTerm_49 rfl (lv_at hl 2 rfl) ?_
          refine lv_iload_n hx hb dX5_readTerm_50 rfl (lv_at hl 3 rfl) ?_
          obtain ⟨r6, at__6, Fkinds_6, Flefts_6, Frights_6, Fplaces_6, Fsize_6, hc6, h⟩ := bnd7_inv h
          have hFc := va_free (wc := ((wL k aL Lsigns Llength (Lat + 1)) ++ (wF k aF Fkinds Flefts Frights Fplaces Fvalues Fslopes Fexponents Fsize Froot))) hD hS hA [0, 1, 2, 3, 4, 5, 6, 7, 8, 9] rfl
          refine xc_i (va_runV (As := [.ref (aF 0), .int v2]) (rest := []) ⟨hx, hb, hml, hown, hts⟩ (met_X5_readPart l D k dl fP fS hfP hfS aL aF H.size Lsigns Llength (Lat + 1) Fkinds Flefts Frights Fplaces Fvalues Fslopes Fexponents Fsize Froot v2 r6 at__6 Fkinds_6 Flefts_6 Frights_6 Fplaces_6 Fsize_6 hc6) (cwV 2 hts gX5_readTerm_X5_readPart rfl rfl rfl (by decide +kernel) ⟨by show 5 * (dl + 1) + 5 + 1 ≤ 5 * (dl + 1) + 6; omega, by show 8 + (6 + 11) + (150 * (dl + 1) + 240) ≤ 150 * (dl + 1) + 270; omega⟩) ⟨pw_blind, va_recv hK hP (ci := 5) (q0 := 0) rfl rfl, pw_start hP hK hD⟩ rfl rfl hl.1 rfl (lv_room (Nat.le_of_ble_eq_true rfl)) dX5_readTerm_51 ⟨Nat.zero_le _, Nat.zero_le _⟩) hS hFc (fun H1 locs hP1 hD1 hk1 hS => ?_)
          obtain ⟨hP, hD⟩ := vj_all hFc hP1 hD1
          clear hP1 hD1 hk1 hFc
          generalize H1 = H at hP hS ⊢
          refine lv_istore (lv' := [(5, .int r6), (4, .int Lat), (0, .ref (aL 0)), (1, .ref (aF 0)), (2, .int v2), (3, .int v3)]) hx hb dX5_readTerm_54 hl (by decide) rfl (fun ls hl => ?_)
          refine lv_iload hx hb dX5_readTerm_56 (lv_at hl 0 rfl) ?_
          refine lv_iconst (v := -1) hx hb dX5_readTerm_58 (by decide) ?_
          refine lv_icmp_ne (tgt := 66) hx hb dX5_readTerm_59 (by decide) (fun c7 => ?_) (fun c7 => ?_)
          · replace h := sf_f c7 h
            refine lv_aload_n hx hb dX5_readTerm_66 rfl (lv_at hl 3 rfl) ?_
            refine lv_iconst (v := 5) hx hb dX5_readTerm_67 (by decide) ?_
            refine lv_iload_n hx hb dX5_readTerm_68 rfl (lv_at hl 5 rfl) ?_
            refine lv_iload hx hb dX5_readTerm_69 (lv_at hl 0 rfl) ?_
            refine lv_iload hx hb dX5_readTerm_71 (lv_at hl 1 rfl) ?_
            obtain ⟨r8, kinds_8, lefts_8, rights_8, places_8, size_8, hc8, h⟩ := bnd6_inv h
            have hPc := hP.sub (ws' := (wF k aF Fkinds_6 Flefts_6 Frights_6 Fplaces_6 Fvalues Fslopes Fexponents Fsize_6 Froot)) [2, 3, 4, 5, 6, 7, 8, 9] rfl
            have hDc := hD.sub (ws' := (wF k aF Fkinds_6 Flefts_6 Frights_6 Fplaces_6 Fvalues Fslopes Fexponents Fsize_6 Froot)) [2, 3, 4, 5, 6, 7, 8, 9] rfl rfl
            have hFc := va_free (wc := (wF k aF Fkinds_6 Flefts_6 Frights_6 Fplaces_6 Fvalues Fslopes Fexponents Fsize_6 Froot)) hD hS hA [2, 3, 4, 5, 6, 7, 8, 9] rfl
            refine xc_i (va_runV (As := [.int 5, .int v3, .int r6, .int Lat]) (rest := []) ⟨hx, hb, hml, hown, hts⟩ (met_X3_add l D k  aF H.size Fkinds_6 Flefts_6 Frights_6 Fplaces_6 Fvalues Fslopes Fexponents Fsize_6 Froot 5 v3 r6 Lat r8 kinds_8 lefts_8 rights_8 places_8 size_8 hc8) (cwV 4 hts gX5_readTerm_X3_add rfl rfl rfl (by decide +kernel) ⟨by show 1 + 1 ≤ 5 * (dl + 1) + 6; omega, by show 8 + (6 + 11) + (24) ≤ 150 * (dl + 1) + 270; omega⟩) ⟨pw_blind, va_recv hK hPc (ci := 3) (q0 := 0) rfl rfl, pw_start hPc hK hDc⟩ rfl rfl hl.1 rfl (lv_room (Nat.le_of_ble_eq_true rfl)) dX5_readTerm_73 ⟨Nat.zero_le _, Nat.zero_le _⟩) hS hFc (fun H1 locs hP1 hD1 hk1 hS => ?_)
            obtain ⟨hP, hD⟩ := vj (ws' := ((wL k aL Lsigns Llength at__6) ++ (wF k aF kinds_8 lefts_8 rights_8 places_8 Fvalues Fslopes Fexponents size_8 Froot))) (w1 := (wF k aF kinds_8 lefts_8 rights_8 places_8 Fvalues Fslopes Fexponents size_8 Froot)) hP hD [2, 3, 4, 5, 6, 7, 8, 9] [0, 1] [0, 1, 2, 3, 4, 5, 6, 7, 8, 9] rfl rfl rfl rfl rfl hk1 hFc hP1 hD1
            clear hP1 hD1 hk1 hFc
            generalize H1 = H at hP hS ⊢
            refine lv_istore_n (lv' := [(3, .int r8), (5, .int r6), (4, .int Lat), (0, .ref (aL 0)), (1, .ref (aF 0)), (2, .int v2)]) hx hb dX5_readTerm_76 rfl hl (by decide) rfl (fun ls hl => ?_)
            refine lv_goto (tgt := 7) hx hb dX5_readTerm_77 (by decide) ?_
            exact ih _ _ _ _ _ _ _ h _ _ _ hP hD hS (lv_sub hl [3, 4, 5, 0] rfl)
          · replace h := sf_t c7 h
            refine lv_iconst (v := -1) hx hb dX5_readTerm_62 (by decide) ?_
            refine lv_goto (tgt := 76) hx hb dX5_readTerm_63 (by decide) ?_
            refine lv_istore_n (lv' := [(3, .int ((-1))), (5, .int r6), (4, .int Lat), (0, .ref (aL 0)), (1, .ref (aF 0)), (2, .int v2)]) hx hb dX5_readTerm_76 rfl hl (by decide) rfl (fun ls hl => ?_)
            refine lv_goto (tgt := 7) hx hb dX5_readTerm_77 (by decide) ?_
            exact ih _ _ _ _ _ _ _ h _ _ _ hP hD hS (lv_sub hl [3, 4, 5, 0] rfl)
  suffices main : ∀ (H : Heap) (locs : List Loc) (ls : Array Slot), va_P D vwCl ((wL k aL Lsigns Llength Lat) ++ (wF k aF Fkinds Flefts Frights Fplaces Fvalues Fslopes Fexponents Fsize Froot)) H → va_D A ((wL k aL Lsigns Llength Lat) ++ (wF k aF Fkinds Flefts Frights Fplaces Fvalues Fslopes Fexponents Fsize Froot)) → va_S A s.heap H locs → lv_has ls 6 [(0, .ref (aL 0)), (1, .ref (aF 0)), (2, .int v2)] → W p l e (rmX5_readTerm (dl + 1)) s m args below meth c H locs 0 0 Q (F0 m 0 ls []) from main _ _ _ hP hD hS hl
  clear hP hD hS hl ls hAe
  intro H locs ls hP hD hS hl
  refine lv_aload_n hx hb dX5_readTerm_0 rfl (lv_at hl 0 rfl) ?_
  refine lv_aload_n hx hb dX5_readTerm_1 rfl (lv_at hl 1 rfl) ?_
  refine lv_iload_n hx hb dX5_readTerm_2 rfl (lv_at hl 2 rfl) ?_
  obtain ⟨r1, at__1, Fkinds_1, Flefts_1, Frights_1, Fplaces_1, Fsize_1, hc1, h⟩ := bnd7_inv h
  have hFc := va_free (wc := ((wL k aL Lsigns Llength Lat) ++ (wF k aF Fkinds Flefts Frights Fplaces Fvalues Fslopes Fexponents Fsize Froot))) hD hS hA [0, 1, 2, 3, 4, 5, 6, 7, 8, 9] rfl
  refine xc_i (va_runV (As := [.ref (aF 0), .int v2]) (rest := []) ⟨hx, hb, hml, hown, hts⟩ (met_X5_readPart l D k dl fP fS hfP hfS aL aF H.size Lsigns Llength Lat Fkinds Flefts Frights Fplaces Fvalues Fslopes Fexponents Fsize Froot v2 r1 at__1 Fkinds_1 Flefts_1 Frights_1 Fplaces_1 Fsize_1 hc1) (cwV 2 hts gX5_readTerm_X5_readPart rfl rfl rfl (by decide +kernel) ⟨by show 5 * (dl + 1) + 5 + 1 ≤ 5 * (dl + 1) + 6; omega, by show 8 + (6 + 11) + (150 * (dl + 1) + 240) ≤ 150 * (dl + 1) + 270; omega⟩) ⟨pw_blind, va_recv hK hP (ci := 5) (q0 := 0) rfl rfl, pw_start hP hK hD⟩ rfl rfl hl.1 rfl (lv_room (Nat.le_of_ble_eq_true rfl)) dX5_readTerm_3 ⟨Nat.zero_le _, Nat.zero_le _⟩) hS hFc (fun H1 locs hP1 hD1 hk1 hS => ?_)
  obtain ⟨hP, hD⟩ := vj_all hFc hP1 hD1
  clear hP1 hD1 hk1 hFc
  generalize H1 = H at hP hS ⊢
  refine lv_istore_n (lv' := [(3, .int r1), (0, .ref (aL 0)), (1, .ref (aF 0)), (2, .int v2)]) hx hb dX5_readTerm_6 rfl hl (by decide) rfl (fun ls hl => ?_)
  refine LH_7 _ (fun v3 Lat Fkinds Flefts Frights Fplaces Fsize h H locs ls hP hD hS hl => ?_) _ _ _ _ _ _ _ _ h _ _ _ hP hD hS (lv_sub hl [1, 2, 3, 0] rfl)
  · skip
    refine lv_iload_n hx hb dX5_readTerm_80 rfl (lv_at hl 0 rfl) ?_
    have hP9 := hP
    have hD9 := hD
    have hS9 := hS
    subst hQ
    cases h
    exact W.iret hx hb hr (fun t ht hW => ⟨⟨_, (), rfl, rfl, by rw [ht]; exact hP9, va_K.moved hW.alike hK, hD9⟩, hS9.F ht⟩) hS9.2.2 dX5_readTerm_81
def BX5_readSum_55 (Lsigns : Nat → Int32) (Llength : Int32) (v2 : Int32) (fP : TPs) (fS : TPs) (K : Int32 → Int32 → (Nat → Int32) → (Nat → Int32) → (Nat → Int32) → (Nat → Int32) → Int32 → Option (Int32 × Int32 × (Nat → Int32) × (Nat → Int32) × (Nat → Int32) × (Nat → Int32) × Int32)) (E106 : Int32 → Int32 → (Nat → Int32) → (Nat → Int32) → (Nat → Int32) → (Nat → Int32) → Int32 → Option (Int32 × Int32 × (Nat → Int32) × (Nat → Int32) × (Nat → Int32) × (Nat → Int32) × Int32)) (v3 : Int32) (s0 : Int32) (Lat : Int32) (Fkinds : Nat → Int32) (Flefts : Nat → Int32) (Frights : Nat → Int32) (Fplaces : Nat → Int32) (Fsize : Int32) : Option (Int32 × Int32 × (Nat → Int32) × (Nat → Int32) × (Nat → Int32) × (Nat → Int32) × Int32) := bnd7 (fX5_readTerm v2 Lsigns Llength (Lat + 1) Fkinds Flefts Frights Fplaces Fsize fP fS) (fun r8 at__8 Fkinds_8 Flefts_8 Frights_8 Fplaces_8 Fsize_8 => (if r8 = ((-1)) then K ((-1)) at__8 Fkinds_8 Flefts_8 Frights_8 Fplaces_8 Fsize_8 else bnd6 (fX3_add s0 v3 r8 Lat Fkinds_8 Flefts_8 Frights_8 Fplaces_8 Fsize_8) (fun r10 kinds_10 lefts_10 rights_10 places_10 size_10 => K r10 at__8 kinds_10 lefts_10 rights_10 places_10 size_10)))
def BX5_readSum_41 (Lsigns : Nat → Int32) (Llength : Int32) (v2 : Int32) (fP : TPs) (fS : TPs) (K : Int32 → Int32 → (Nat → Int32) → (Nat → Int32) → (Nat → Int32) → (Nat → Int32) → Int32 → Option (Int32 × Int32 × (Nat → Int32) × (Nat → Int32) × (Nat → Int32) × (Nat → Int32) × Int32)) (E106 : Int32 → Int32 → (Nat → Int32) → (Nat → Int32) → (Nat → Int32) → (Nat → Int32) → Int32 → Option (Int32 × Int32 × (Nat → Int32) × (Nat → Int32) × (Nat → Int32) × (Nat → Int32) × Int32)) (v3 : Int32) (Lat : Int32) (Fkinds : Nat → Int32) (Flefts : Nat → Int32) (Frights : Nat → Int32) (Fplaces : Nat → Int32) (Fsize : Int32) : Option (Int32 × Int32 × (Nat → Int32) × (Nat → Int32) × (Nat → Int32) × (Nat → Int32) × Int32) := bnd1 (fX5_next Lsigns Llength Lat) (fun r6 => (if r6 = 43 then BX5_readSum_55 Lsigns Llength v2 fP fS (K) E106 v3 3 Lat Fkinds Flefts Frights Fplaces Fsize else BX5_readSum_55 Lsigns Llength v2 fP fS (K) E106 v3 4 Lat Fkinds Flefts Frights Fplaces Fsize))
def LX5_readSum_7 (Lsigns : Nat → Int32) (Llength : Int32) (v2 : Int32) (fP : TPs) (fS : TPs) (E106 : Int32 → Int32 → (Nat → Int32) → (Nat → Int32) → (Nat → Int32) → (Nat → Int32) → Int32 → Option (Int32 × Int32 × (Nat → Int32) × (Nat → Int32) × (Nat → Int32) × (Nat → Int32) × Int32)) : Nat → Int32 → Int32 → (Nat → Int32) → (Nat → Int32) → (Nat → Int32) → (Nat → Int32) → Int32 → Option (Int32 × Int32 × (Nat → Int32) × (Nat → Int32) × (Nat → Int32) × (Nat → Int32) × Int32)
  | 0, _, _, _, _, _, _, _ => none
  | fuel + 1, v3, Lat, Fkinds, Flefts, Frights, Fplaces, Fsize => (if v3 = ((-1)) then E106 v3 Lat Fkinds Flefts Frights Fplaces Fsize else (if Llength ≤ Lat then E106 v3 Lat Fkinds Flefts Frights Fplaces Fsize else bnd1 (fX5_next Lsigns Llength Lat) (fun r4 => (if r4 = 43 then BX5_readSum_41 Lsigns Llength v2 fP fS (LX5_readSum_7 Lsigns Llength v2 fP fS E106 fuel) E106 v3 Lat Fkinds Flefts Frights Fplaces Fsize else bnd1 (fX5_next Lsigns Llength Lat) (fun r11 => (if r11 = 45 then BX5_readSum_41 Lsigns Llength v2 fP fS (LX5_readSum_7 Lsigns Llength v2 fP fS E106 fuel) E106 v3 Lat Fkinds Flefts Frights Fplaces Fsize else E106 v3 Lat Fkinds Flefts Frights Fplaces Fsize))))))
def fX5_readSum (v2 : Int32) (Lsigns : Nat → Int32) (Llength : Int32) (Lat : Int32) (Fkinds : Nat → Int32) (Flefts : Nat → Int32) (Frights : Nat → Int32) (Fplaces : Nat → Int32) (Fsize : Int32) (fP : TPs) (fS : TPs) : Option (Int32 × Int32 × (Nat → Int32) × (Nat → Int32) × (Nat → Int32) × (Nat → Int32) × Int32) := bnd7 (fX5_readTerm v2 Lsigns Llength Lat Fkinds Flefts Frights Fplaces Fsize fP fS) (fun r1 at__1 Fkinds_1 Flefts_1 Frights_1 Fplaces_1 Fsize_1 => LX5_readSum_7 Lsigns Llength v2 fP fS (fun (v3 : Int32) (Lat : Int32) (Fkinds : Nat → Int32) (Flefts : Nat → Int32) (Frights : Nat → Int32) (Fplaces : Nat → Int32) (Fsize : Int32) => some (v3, Lat, Fkinds, Flefts, Frights, Fplaces, Fsize)) 1000 r1 at__1 Fkinds_1 Flefts_1 Frights_1 Fplaces_1 Fsize_1)
set_option maxHeartbeats 4000000 in
set_option maxRecDepth 100000 in
theorem met_X5_readSum (l : Launch) (D : va_G) (k : Nat → ClassId) (dl : Nat) (fP fS : TPs) (hfP : ConP l D k dl fP) (hfS : ConS l D k dl fS) (aL : Nat → Nat) (aF : Nat → Nat) (sz : Nat) (Lsigns : Nat → Int32) (Llength : Int32) (Lat : Int32) (Fkinds : Nat → Int32) (Flefts : Nat → Int32) (Frights : Nat → Int32) (Fplaces : Nat → Int32) (Fvalues : Nat → Int64) (Fslopes : Nat → Int64) (Fexponents : Nat → Int32) (Fsize : Int32) (Froot : Int32) (v2 : Int32) (r : Int32) (RLat : Int32) (RFkinds : Nat → Int32) (RFlefts : Nat → Int32) (RFrights : Nat → Int32) (RFplaces : Nat → Int32) (RFsize : Int32) (h : fX5_readSum v2 Lsigns Llength Lat Fkinds Flefts Frights Fplaces Fsize fP fS = some (r, RLat, RFkinds, RFlefts, RFrights, RFplaces, RFsize)) : Met l yX5_readSum wsX5_readSum (rmX5_readSum (dl + 1)) (va_Pc [.ref (aL 0), .ref (aF 0), .int v2] (PreW D k ((wL k aL Lsigns Llength Lat) ++ (wF k aF Fkinds Flefts Frights Fplaces Fvalues Fslopes Fexponents Fsize Froot)) sz)) (va_Qi (fun r9 (_ : Unit) => r9 = r) (fun _ t => PostW D k (va_A ((wL k aL Lsigns Llength Lat) ++ (wF k aF Fkinds Flefts Frights Fplaces Fvalues Fslopes Fexponents Fsize Froot)) sz) ((wL k aL Lsigns Llength RLat) ++ (wF k aF RFkinds RFlefts RFrights RFplaces Fvalues Fslopes Fexponents RFsize Froot)) t) (va_A ((wL k aL Lsigns Llength Lat) ++ (wF k aF Fkinds Flefts Frights Fplaces Fvalues Fslopes Fexponents Fsize Froot)) sz)) 0 0 (va_A ((wL k aL Lsigns Llength Lat) ++ (wF k aF Fkinds Flefts Frights Fplaces Fvalues Fslopes Fexponents Fsize Froot)) sz) := by
  refine Met.ofW (cc := cX5_readSum) (maxL := 7) (ret := (some .int)) (by decide) rfl ?_
  intro p e s m args below meth c s₁ B hml hv
  obtain ⟨hav, hsz, hP, hK, hD0⟩ := hv
  have hx := B.exec
  have hb := B.bytes
  have hr := B.returns
  have hts := atoms_spec (ws := wsX5_readSum) B.pre
  have hown : s.vm.findClass RX5 = some m.cls := findClass_of_methodNamed B.named
  have hlocks := B.notSynchronized
  subst hsz
  have hD := hD0.self (sz := s.heap.size)
  clear hD0
  generalize hAe : va_A ((wL k aL Lsigns Llength Lat) ++ (wF k aF Fkinds Flefts Frights Fplaces Fvalues Fslopes Fexponents Fsize Froot)) s.heap.size = A at hD ⊢
  have hA : ∀ q : Nat, s.heap.size ≤ q → A q := fun q h => by rw [← hAe]; exact Or.inr h
  have hS : va_S A s.heap s.heap [] := va_S.rf
  have hl := lv_entry ([.ref (aL 0), .ref (aF 0), .int v2]) (n := 7) (Nat.le_of_ble_eq_true rfl)
  rw [show entryFrame m args 7 = entryFrame m ([.ref (aL 0), .ref (aF 0), .int v2] : List Value).toArray 7 from by rw [hav], lg_entry_eq]
  generalize (lg_sl ([.ref (aL 0), .ref (aF 0), .int v2]) ++ List.replicate (7 - (lg_sl ([.ref (aL 0), .ref (aF 0), .int v2])).length) Slot.unset).toArray = ls at hl ⊢
  replace hl : lv_has ls 7 [(0, .ref (aL 0)), (1, .ref (aF 0)), (2, .int v2)] := hl
  have f15 := hts (.fieldLink RX5 15 "UncertainBook$Line" "length" "I") (by decide +kernel)
  have f19 := hts (.fieldLink RX5 19 "UncertainBook$Line" "at" "I") (by decide +kernel)
  have iX5 : ∀ w ∈ u_ws RX5 TX5 3, w ∈ wsX5_readSum := by decide +kernel
  refine w_q (fun Q hQ => ?_)
  unfold fX5_readSum at h
  show W p l e (rmX5_readSum (dl + 1)) s m args below meth c s.heap [] 0 0 Q (F0 m 0 ls [])
  have BH_55 : ∀ (K : Int32 → Int32 → (Nat → Int32) → (Nat → Int32) → (Nat → Int32) → (Nat → Int32) → Int32 → Option (Int32 × Int32 × (Nat → Int32) × (Nat → Int32) × (Nat → Int32) × (Nat → Int32) × Int32)) (hKK : ∀ (v3 : Int32) (Lat : Int32) (Fkinds : Nat → Int32) (Flefts : Nat → Int32) (Frights : Nat → Int32) (Fplaces : Nat → Int32) (Fsize : Int32), K v3 Lat Fkinds Flefts Frights Fplaces Fsize = some (r, RLat, RFkinds, RFlefts, RFrights, RFplaces, RFsize) → ∀ (H : Heap) (locs : List Loc) (ls : Array Slot), va_P D vwCl ((wL k aL Lsigns Llength Lat) ++ (wF k aF Fkinds Flefts Frights Fplaces Fvalues Fslopes Fexponents Fsize Froot)) H → va_D A ((wL k aL Lsigns Llength Lat) ++ (wF k aF Fkinds Flefts Frights Fplaces Fvalues Fslopes Fexponents Fsize Froot)) → va_S A s.heap H locs → lv_has ls 7 [(0, .ref (aL 0)), (1, .ref (aF 0)), (2, .int v2), (3, .int v3)] → W p l e (rmX5_readSum (dl + 1)) s m args below meth c H locs 0 0 Q (F0 m 7 ls [])) (E106 : Int32 → Int32 → (Nat → Int32) → (Nat → Int32) → (Nat → Int32) → (Nat → Int32) → Int32 → Option (Int32 × Int32 × (Nat → Int32) × (Nat → Int32) × (Nat → Int32) × (Nat → Int32) × Int32)) (hE106 : ∀ (v3 : Int32) (Lat : Int32) (Fkinds : Nat → Int32) (Flefts : Nat → Int32) (Frights : Nat → Int32) (Fplaces : Nat → Int32) (Fsize : Int32), E106 v3 Lat Fkinds Flefts Frights Fplaces Fsize = some (r, RLat, RFkinds, RFlefts, RFrights, RFplaces, RFsize) → ∀ (H : Heap) (locs : List Loc) (ls : Array Slot), va_P D vwCl ((wL k aL Lsigns Llength Lat) ++ (wF k aF Fkinds Flefts Frights Fplaces Fvalues Fslopes Fexponents Fsize Froot)) H → va_D A ((wL k aL Lsigns Llength Lat) ++ (wF k aF Fkinds Flefts Frights Fplaces Fvalues Fslopes Fexponents Fsize Froot)) → va_S A s.heap H locs → lv_has ls 7 [(3, .int v3)] → W p l e (rmX5_readSum (dl + 1)) s m args below meth c H locs 0 0 Q (F0 m 106 ls [])) (v3 : Int32) (s0 : Int32) (Lat : Int32) (Fkinds : Nat → Int32) (Flefts : Nat → Int32) (Frights : Nat → Int32) (Fplaces : Nat → Int32) (Fsize : Int32), BX5_readSum_55 Lsigns Llength v2 fP fS K E106 v3 s0 Lat Fkinds Flefts Frights Fplaces Fsize = some (r, RLat, RFkinds, RFlefts, RFrights, RFplaces, RFsize) → ∀ (H : Heap) (locs : List Loc) (ls : Array Slot), va_P D vwCl ((wL k aL Lsigns Llength Lat) ++ (wF k aF Fkinds Flefts Frights Fplaces Fvalues Fslopes Fexponents Fsize Froot)) H → va_D A ((wL k aL Lsigns Llength Lat) ++ (wF k aF Fkinds Flefts Frights Fplaces Fvalues Fslopes Fexponents Fsize Froot)) → va_S A s.heap H locs → lv_has ls 7 [(0, .ref (aL 0)), (1, .ref (aF 0)), (2, .int v2), (3, .int v3)] → W p l e (rmX5_readSum (dl + 1)) s m args below meth c H locs 0 0 Q (F0 m 55 ls [.int s0]) := by
    intro K hKK E106 hE106 v3 s0 Lat Fkinds Flefts Frights Fplaces Fsize h H locs ls hP hD hS hl
    unfold BX5_readSum_55 at h
    refine lv_istore (lv' := [(4, .int s0), (0, .ref (aL 0)), (1, .ref (aF 0)), (2, .int v2), (3, .int v3)]) hx hb dX5_readSum_55 hl (by decide) rfl (fun ls hl => ?_)
    refine lv_aload_n hx hb dX5_readSum_57 rfl (lv_at hl 1 rfl) ?_
    refine va_get (D := D) (ci := 5) (v := .int Lat) (C := RX5) (T := TX5) (N := 3) hx hb hts iX5 hown hK hP 0 rfl rfl 2 (by decide) f19 (fun _ h9 => h9) rfl dX5_readSum_58 ?_
    refine lv_istore (lv' := [(5, .int Lat), (4, .int s0), (0, .ref (aL 0)), (1, .ref (aF 0)), (2, .int v2), (3, .int v3)]) hx hb dX5_readSum_61 hl (by decide) rfl (fun ls hl => ?_)
    refine lv_aload_n hx hb dX5_readSum_63 rfl (lv_at hl 2 rfl) ?_
    refine lv_dup hx hb dX5_readSum_64 rfl ?_
    refine va_get (D := D) (ci := 5) (v := .int Lat) (C := RX5) (T := TX5) (N := 3) hx hb hts iX5 hown hK hP 0 rfl rfl 2 (by decide) f19 (fun _ h9 => h9) rfl dX5_readSum_65 ?_
    refine lv_iconst (v := 1) hx hb dX5_readSum_68 (by decide) ?_
    refine lv_iadd hx hb dX5_readSum_69 ?_
    refine va_put (D := D) (ci := 5) (v := .int (Lat + 1)) (ty := .int) (C := RX5) (T := TX5) (N := 3) hx hb hts iX5 tyX5 tyX5_ok nmX5 hown hK hP hD hS 0 rfl rfl 2 (by decide) f19 (fun _ h9 => h9) rfl (by decide +kernel) rfl rfl (Nat.le_of_ble_eq_true rfl) dX5_readSum_70 (fun H locs hP hD hS => ?_)
    replace hP : va_P D vwCl ((wL k aL Lsigns Llength (Lat + 1)) ++ (wF k aF Fkinds Flefts Frights Fplaces Fvalues Fslopes Fexponents Fsize Froot)) H := hP
    replace hD : va_D A ((wL k aL Lsigns Llength (Lat + 1)) ++ (wF k aF Fkinds Flefts Frights Fplaces Fvalues Fslopes Fexponents Fsize Froot)) := hD
    refine lv_aload_n hx hb dX5_readSum_73 rfl (lv_at hl 2 rfl) ?_
    refine lv_aload_n hx hb dX5_readSum_74 rfl (lv_at hl 3 rfl) ?_
    refine lv_iload_n hx hb dX5_readSum_75 rfl (lv_at hl 4 rfl) ?_
    obtain ⟨r8, at__8, Fkinds_8, Flefts_8, Frights_8, Fplaces_8, Fsize_8, hc8, h⟩ := bnd7_inv h
    have hFc := va_free (wc := ((wL k aL Lsigns Llength (Lat + 1)) ++ (wF k aF Fkinds Flefts Frights Fplaces Fvalues Fslopes Fexponents Fsize Froot))) hD hS hA [0, 1, 2, 3, 4, 5, 6, 7, 8, 9] rfl
    refine xc_i (va_runV (As := [.ref (aF 0), .int v2]) (rest := []) ⟨hx, hb, hml, hown, hts⟩ (met_X5_readTerm l D k dl fP fS hfP hfS aL aF H.size Lsigns Llength (Lat + 1) Fkinds Flefts Frights Fplaces Fvalues Fslopes Fexponents Fsize Froot v2 r8 at__8 Fkinds_8 Flefts_8 Frights_8 Fplaces_8 Fsize_8 hc8) (cwV 2 hts gX5_readSum_X5_readTerm rfl rfl rfl (by decide +kernel) ⟨by show 5 * (dl + 1) + 6 + 1 ≤ 5 * (dl + 1) + 7; omega, by show 8 + (6 + 11) + (150 * (dl + 1) + 270) ≤ 150 * (dl + 1) + 300; omega⟩) ⟨pw_blind, va_recv hK hP (ci := 5) (q0 := 0) rfl rfl, pw_start hP hK hD⟩ rfl rfl hl.1 rfl (lv_room (Nat.le_of_ble_eq_true rfl)) dX5_readSum_76 ⟨Nat.zero_le _, Nat.zero_le _⟩) hS hFc (fun H1 locs hP1 hD1 hk1 hS => ?_)
    obtain ⟨hP, hD⟩ := vj_all hFc hP1 hD1
    clear hP1 hD1 hk1 hFc
    generalize H1 = H at hP hS ⊢
    refine lv_istore (lv' := [(6, .int r8), (5, .int Lat), (4, .int s0), (0, .ref (aL 0)), (1, .ref (aF 0)), (2, .int v2), (3, .int v3)]) hx hb dX5_readSum_79 hl (by decide) rfl (fun ls hl => ?_)
    refine lv_iload hx hb dX5_readSum_81 (lv_at hl 0 rfl) ?_
    refine lv_iconst (v := -1) hx hb dX5_readSum_83 (by decide) ?_
    refine lv_icmp_ne (tgt := 91) hx hb dX5_readSum_84 (by decide) (fun c9 => ?_) (fun c9 => ?_)
    · replace h := sf_f c9 h
      refine lv_aload_n hx hb dX5_readSum_91 rfl (lv_at hl 4 rfl) ?_
      refine lv_iload hx hb dX5_readSum_92 (lv_at hl 2 rfl) ?_
      refine lv_iload_n hx hb dX5_readSum_94 rfl (lv_at hl 6 rfl) ?_
      refine lv_iload hx hb dX5_readSum_95 (lv_at hl 0 rfl) ?_
      refine lv_iload hx hb dX5_readSum_97 (lv_at hl 1 rfl) ?_
      obtain ⟨r10, kinds_10, lefts_10, rights_10, places_10, size_10, hc10, h⟩ := bnd6_inv h
      have hPc := hP.sub (ws' := (wF k aF Fkinds_8 Flefts_8 Frights_8 Fplaces_8 Fvalues Fslopes Fexponents Fsize_8 Froot)) [2, 3, 4, 5, 6, 7, 8, 9] rfl
      have hDc := hD.sub (ws' := (wF k aF Fkinds_8 Flefts_8 Frights_8 Fplaces_8 Fvalues Fslopes Fexponents Fsize_8 Froot)) [2, 3, 4, 5, 6, 7, 8, 9] rfl rfl
      have hFc := va_free (wc := (wF k aF Fkinds_8 Flefts_8 Frights_8 Fplaces_8 Fvalues Fslopes Fexponents Fsize_8 Froot)) hD hS hA [2, 3, 4, 5, 6, 7, 8, 9] rfl
      refine xc_i (va_runV (As := [.int s0, .int v3, .int r8, .int Lat]) (rest := []) ⟨hx, hb, hml, hown, hts⟩ (met_X3_add l D k  aF H.size Fkinds_8 Flefts_8 Frights_8 Fplaces_8 Fvalues Fslopes Fexponents Fsize_8 Froot s0 v3 r8 Lat r10 kinds_10 lefts_10 rights_10 places_10 size_10 hc10) (cwV 4 hts gX5_readSum_X3_add rfl rfl rfl (by decide +kernel) ⟨by show 1 + 1 ≤ 5 * (dl + 1) + 7; omega, by show 8 + (6 + 11) + (24) ≤ 150 * (dl + 1) + 300; omega⟩) ⟨pw_blind, va_recv hK hPc (ci := 3) (q0 := 0) rfl rfl, pw_start hPc hK hDc⟩ rfl rfl hl.1 rfl (lv_room (Nat.le_of_ble_eq_true rfl)) dX5_readSum_99 ⟨Nat.zero_le _, Nat.zero_le _⟩) hS hFc (fun H1 locs hP1 hD1 hk1 hS => ?_)
      obtain ⟨hP, hD⟩ := vj (ws' := ((wL k aL Lsigns Llength at__8) ++ (wF k aF kinds_10 lefts_10 rights_10 places_10 Fvalues Fslopes Fexponents size_10 Froot))) (w1 := (wF k aF kinds_10 lefts_10 rights_10 places_10 Fvalues Fslopes Fexponents size_10 Froot)) hP hD [2, 3, 4, 5, 6, 7, 8, 9] [0, 1] [0, 1, 2, 3, 4, 5, 6, 7, 8, 9] rfl rfl rfl rfl rfl hk1 hFc hP1 hD1
      clear hP1 hD1 hk1 hFc
      generalize H1 = H at hP hS ⊢
      refine lv_istore_n (lv' := [(3, .int r10), (6, .int r8), (5, .int Lat), (4, .int s0), (0, .ref (aL 0)), (1, .ref (aF 0)), (2, .int v2)]) hx hb dX5_readSum_102 rfl hl (by decide) rfl (fun ls hl => ?_)
      refine lv_goto (tgt := 7) hx hb dX5_readSum_103 (by decide) ?_
      exact hKK _ _ _ _ _ _ _ h _ _ _ hP hD hS (lv_sub hl [4, 5, 6, 0] rfl)
    · replace h := sf_t c9 h
      refine lv_iconst (v := -1) hx hb dX5_readSum_87 (by decide) ?_
      refine lv_goto (tgt := 102) hx hb dX5_readSum_88 (by decide) ?_
      refine lv_istore_n (lv' := [(3, .int ((-1))), (6, .int r8), (5, .int Lat), (4, .int s0), (0, .ref (aL 0)), (1, .ref (aF 0)), (2, .int v2)]) hx hb dX5_readSum_102 rfl hl (by decide) rfl (fun ls hl => ?_)
      refine lv_goto (tgt := 7) hx hb dX5_readSum_103 (by decide) ?_
      exact hKK _ _ _ _ _ _ _ h _ _ _ hP hD hS (lv_sub hl [4, 5, 6, 0] rfl)
  have BH_41 : ∀ (K : Int32 → Int32 → (Nat → Int32) → (Nat → Int32) → (Nat → Int32) → (Nat → Int32) → Int32 → Option (Int32 × Int32 × (Nat → Int32) × (Nat → Int32) × (Nat → Int32) × (Nat → Int32) × Int32)) (hKK : ∀ (v3 : Int32) (Lat : Int32) (Fkinds : Nat → Int32) (Flefts : Nat → Int32) (Frights : Nat → Int32) (Fplaces : Nat → Int32) (Fsize : Int32), K v3 Lat Fkinds Flefts Frights Fplaces Fsize = some (r, RLat, RFkinds, RFlefts, RFrights, RFplaces, RFsize) → ∀ (H : Heap) (locs : List Loc) (ls : Array Slot), va_P D vwCl ((wL k aL Lsigns Llength Lat) ++ (wF k aF Fkinds Flefts Frights Fplaces Fvalues Fslopes Fexponents Fsize Froot)) H → va_D A ((wL k aL Lsigns Llength Lat) ++ (wF k aF Fkinds Flefts Frights Fplaces Fvalues Fslopes Fexponents Fsize Froot)) → va_S A s.heap H locs → lv_has ls 7 [(0, .ref (aL 0)), (1, .ref (aF 0)), (2, .int v2), (3, .int v3)] → W p l e (rmX5_readSum (dl + 1)) s m args below meth c H locs 0 0 Q (F0 m 7 ls [])) (E106 : Int32 → Int32 → (Nat → Int32) → (Nat → Int32) → (Nat → Int32) → (Nat → Int32) → Int32 → Option (Int32 × Int32 × (Nat → Int32) × (Nat → Int32) × (Nat → Int32) × (Nat → Int32) × Int32)) (hE106 : ∀ (v3 : Int32) (Lat : Int32) (Fkinds : Nat → Int32) (Flefts : Nat → Int32) (Frights : Nat → Int32) (Fplaces : Nat → Int32) (Fsize : Int32), E106 v3 Lat Fkinds Flefts Frights Fplaces Fsize = some (r, RLat, RFkinds, RFlefts, RFrights, RFplaces, RFsize) → ∀ (H : Heap) (locs : List Loc) (ls : Array Slot), va_P D vwCl ((wL k aL Lsigns Llength Lat) ++ (wF k aF Fkinds Flefts Frights Fplaces Fvalues Fslopes Fexponents Fsize Froot)) H → va_D A ((wL k aL Lsigns Llength Lat) ++ (wF k aF Fkinds Flefts Frights Fplaces Fvalues Fslopes Fexponents Fsize Froot)) → va_S A s.heap H locs → lv_has ls 7 [(3, .int v3)] → W p l e (rmX5_readSum (dl + 1)) s m args below meth c H locs 0 0 Q (F0 m 106 ls [])) (v3 : Int32) (Lat : Int32) (Fkinds : Nat → Int32) (Flefts : Nat → Int32) (Frights : Nat → Int32) (Fplaces : Nat → Int32) (Fsize : Int32), BX5_readSum_41 Lsigns Llength v2 fP fS K E106 v3 Lat Fkinds Flefts Frights Fplaces Fsize = some (r, RLat, RFkinds, RFlefts, RFrights, RFplaces, RFsize) → ∀ (H : Heap) (locs : List Loc) (ls : Array Slot), va_P D vwCl ((wL k aL Lsigns Llength Lat) ++ (wF k aF Fkinds Flefts Frights Fplaces Fvalues Fslopes Fexponents Fsize Froot)) H → va_D A ((wL k aL Lsigns Llength Lat) ++ (wF k aF Fkinds Flefts Frights Fplaces Fvalues Fslopes Fexponents Fsize Froot)) → va_S A s.heap H locs → lv_has ls 7 [(0, .ref (aL 0)), (1, .ref (aF 0)), (2, .int v2), (3, .int v3)] → W p l e (rmX5_readSum (dl + 1)) s m args below meth c H locs 0 0 Q (F0 m 41 ls []) := by
    intro K hKK E106 hE106 v3 Lat Fkinds Flefts Frights Fplaces Fsize h H locs ls hP hD hS hl
    unfold BX5_readSum_41 at h
    refine lv_aload_n hx hb dX5_readSum_41 rfl (lv_at hl 0 rfl) ?_
    obtain ⟨r6, hc6, h⟩ := bnd1_inv h
    have hPc := hP.sub (ws' := (wL k aL Lsigns Llength Lat)) [0, 1] rfl
    have hDc := hD.sub (ws' := (wL k aL Lsigns Llength Lat)) [0, 1] rfl rfl
    have hFc := va_free (wc := (wL k aL Lsigns Llength Lat)) hD hS hA [0, 1] rfl
    refine xc_i (va_runV (As := []) (rest := []) ⟨hx, hb, hml, hown, hts⟩ (met_X5_next l D k  aL H.size Lsigns Llength Lat r6 hc6) (cwV 0 hts gX5_readSum_X5_next rfl rfl rfl (by decide +kernel) ⟨by show 0 + 1 ≤ 5 * (dl + 1) + 7; omega, by show 8 + (1 + 11) + (0) ≤ 150 * (dl + 1) + 300; omega⟩) ⟨pw_blind, va_recv hK hPc (ci := 5) (q0 := 0) rfl rfl, pw_start hPc hK hDc⟩ rfl rfl hl.1 rfl (lv_room (Nat.le_of_ble_eq_true rfl)) dX5_readSum_42 ⟨Nat.zero_le _, Nat.zero_le _⟩) hS hFc (fun H1 locs hP1 hD1 hk1 hS => ?_)
    obtain ⟨hP, hD⟩ := vj (ws' := ((wL k aL Lsigns Llength Lat) ++ (wF k aF Fkinds Flefts Frights Fplaces Fvalues Fslopes Fexponents Fsize Froot))) (w1 := (wL k aL Lsigns Llength Lat)) hP hD [0, 1] [2, 3, 4, 5, 6, 7, 8, 9] [8, 9, 0, 1, 2, 3, 4, 5, 6, 7] rfl rfl rfl rfl rfl hk1 hFc hP1 hD1
    clear hP1 hD1 hk1 hFc
    generalize H1 = H at hP hS ⊢
    refine lv_bipush (v := 43) hx hb dX5_readSum_45 (by decide) ?_
    refine lv_icmp_ne (tgt := 54) hx hb dX5_readSum_47 (by decide) (fun c7 => ?_) (fun c7 => ?_)
    · replace h := sf_f c7 h
      refine lv_iconst (v := 4) hx hb dX5_readSum_54 (by decide) ?_
      exact BH_55 _ hKK _ hE106 _ _ _ _ _ _ _ _ h _ _ _ hP hD hS (lv_sub hl [0, 1, 2, 3] rfl)
    · replace h := sf_t c7 h
      refine lv_iconst (v := 3) hx hb dX5_readSum_50 (by decide) ?_
      refine lv_goto (tgt := 55) hx hb dX5_readSum_51 (by decide) ?_
      exact BH_55 _ hKK _ hE106 _ _ _ _ _ _ _ _ h _ _ _ hP hD hS (lv_sub hl [0, 1, 2, 3] rfl)
  have LH_7 : ∀ (E106 : Int32 → Int32 → (Nat → Int32) → (Nat → Int32) → (Nat → Int32) → (Nat → Int32) → Int32 → Option (Int32 × Int32 × (Nat → Int32) × (Nat → Int32) × (Nat → Int32) × (Nat → Int32) × Int32)) (hE106 : ∀ (v3 : Int32) (Lat : Int32) (Fkinds : Nat → Int32) (Flefts : Nat → Int32) (Frights : Nat → Int32) (Fplaces : Nat → Int32) (Fsize : Int32), E106 v3 Lat Fkinds Flefts Frights Fplaces Fsize = some (r, RLat, RFkinds, RFlefts, RFrights, RFplaces, RFsize) → ∀ (H : Heap) (locs : List Loc) (ls : Array Slot), va_P D vwCl ((wL k aL Lsigns Llength Lat) ++ (wF k aF Fkinds Flefts Frights Fplaces Fvalues Fslopes Fexponents Fsize Froot)) H → va_D A ((wL k aL Lsigns Llength Lat) ++ (wF k aF Fkinds Flefts Frights Fplaces Fvalues Fslopes Fexponents Fsize Froot)) → va_S A s.heap H locs → lv_has ls 7 [(3, .int v3)] → W p l e (rmX5_readSum (dl + 1)) s m args below meth c H locs 0 0 Q (F0 m 106 ls [])) (n : Nat) (v3 : Int32) (Lat : Int32) (Fkinds : Nat → Int32) (Flefts : Nat → Int32) (Frights : Nat → Int32) (Fplaces : Nat → Int32) (Fsize : Int32), LX5_readSum_7 Lsigns Llength v2 fP fS E106 n v3 Lat Fkinds Flefts Frights Fplaces Fsize = some (r, RLat, RFkinds, RFlefts, RFrights, RFplaces, RFsize) → ∀ (H : Heap) (locs : List Loc) (ls : Array Slot), va_P D vwCl ((wL k aL Lsigns Llength Lat) ++ (wF k aF Fkinds Flefts Frights Fplaces Fvalues Fslopes Fexponents Fsize Froot)) H → va_D A ((wL k aL Lsigns Llength Lat) ++ (wF k aF Fkinds Flefts Frights Fplaces Fvalues Fslopes Fexponents Fsize Froot)) → va_S A s.heap H locs → lv_has ls 7 [(0, .ref (aL 0)), (1, .ref (aF 0)), (2, .int v2), (3, .int v3)] → W p l e (rmX5_readSum (dl + 1)) s m args below meth c H locs 0 0 Q (F0 m 7 ls []) := by
    intro E106 hE106 n
    induction n with
    | zero => intro v3 Lat Fkinds Flefts Frights Fplaces Fsize h; simp [LX5_readSum_7] at h
    | succ n ih =>
    intro v3 Lat Fkinds Flefts Frights Fplaces Fsize h H locs ls hP hD hS hl
    rw [LX5_readSum_7] at h
    refine lv_iload_n hx hb dX5_readSum_7 rfl (lv_at hl 3 rfl) ?_
    refine lv_iconst (v := -1) hx hb dX5_readSum_8 (by decide) ?_
    refine lv_icmp_eq (tgt := 106) hx hb dX5_readSum_9 (by decide) (fun c2 => ?_) (fun c2 => ?_)
    · replace h := sf_t c2 h
      exact hE106 _ _ _ _ _ _ _ h _ _ _ hP hD hS (lv_sub hl [3] rfl)
    · replace h := sf_f c2 h
      refine lv_aload_n hx hb dX5_readSum_12 rfl (lv_at hl 0 rfl) ?_
      refine va_get (D := D) (ci := 5) (v := .int Lat) (C := RX5) (T := TX5) (N := 3) hx hb hts iX5 hown hK hP 0 rfl rfl 2 (by decide) f19 (fun _ h9 => h9) rfl dX5_readSum_13 ?_
      refine lv_aload_n hx hb dX5_readSum_16 rfl (lv_at hl 0 rfl) ?_
      refine va_get (D := D) (ci := 5) (v := .int Llength) (C := RX5) (T := TX5) (N := 3) hx hb hts iX5 hown hK hP 0 rfl rfl 1 (by decide) f15 (fun _ h9 => h9) rfl dX5_readSum_17 ?_
      refine lv_icmp_ge (tgt := 106) hx hb dX5_readSum_20 (by decide) (fun c3 => ?_) (fun c3 => ?_)
      · replace h := sf_t c3 h
        exact hE106 _ _ _ _ _ _ _ h _ _ _ hP hD hS (lv_sub hl [3] rfl)
      · replace h := sf_f c3 h
        refine lv_aload_n hx hb dX5_readSum_23 rfl (lv_at hl 0 rfl) ?_
        obtain ⟨r4, hc4, h⟩ := bnd1_inv h
        have hPc := hP.sub (ws' := (wL k aL Lsigns Llength Lat)) [0, 1] rfl
        have hDc := hD.sub (ws' := (wL k aL Lsigns Llength Lat)) [0, 1] rfl rfl
        have hFc := va_free (wc := (wL k aL Lsigns Llength Lat)) hD hS hA [0, 1] rfl
        refine xc_i (va_runV (As := []) (rest := []) ⟨hx, hb, hml, hown, hts⟩ (met_X5_next l D k  aL H.size Lsigns Llength Lat r4 hc4) (cwV 0 hts gX5_readSum_X5_next rfl rfl rfl (by decide +kernel) ⟨by show 0 + 1 ≤ 5 * (dl + 1) + 7; omega, by show 8 + (1 + 11) + (0) ≤ 150 * (dl + 1) + 300; omega⟩) ⟨pw_blind, va_recv hK hPc (ci := 5) (q0 := 0) rfl rfl, pw_start hPc hK hDc⟩ rfl rfl hl.1 rfl (lv_room (Nat.le_of_ble_eq_true rfl)) dX5_readSum_24 ⟨Nat.zero_le _, Nat.zero_le _⟩) hS hFc (fun H1 locs hP1 hD1 hk1 hS => ?_)
        obtain ⟨hP, hD⟩ := vj (ws' := ((wL k aL Lsigns Llength Lat) ++ (wF k aF Fkinds Flefts Frights Fplaces Fvalues Fslopes Fexponents Fsize Froot))) (w1 := (wL k aL Lsigns Llength Lat)) hP hD [0, 1] [2, 3, 4, 5, 6, 7, 8, 9] [8, 9, 0, 1, 2, 3, 4, 5, 6, 7] rfl rfl rfl rfl rfl hk1 hFc hP1 hD1
        clear hP1 hD1 hk1 hFc
        generalize H1 = H at hP hS ⊢
        refine lv_bipush (v := 43) hx hb dX5_readSum_27 (by decide) ?_
        refine lv_icmp_eq (tgt := 41) hx hb dX5_readSum_29 (by decide) (fun c5 => ?_) (fun c5 => ?_)
        · replace h := sf_t c5 h
          exact BH_41 _ ih _ hE106 _ _ _ _ _ _ _ h _ _ _ hP hD hS (lv_sub hl [0, 1, 2, 3] rfl)
        · replace h := sf_f c5 h
          refine lv_aload_n hx hb dX5_readSum_32 rfl (lv_at hl 0 rfl) ?_
          obtain ⟨r11, hc11, h⟩ := bnd1_inv h
          have hPc := hP.sub (ws' := (wL k aL Lsigns Llength Lat)) [0, 1] rfl
          have hDc := hD.sub (ws' := (wL k aL Lsigns Llength Lat)) [0, 1] rfl rfl
          have hFc := va_free (wc := (wL k aL Lsigns Llength Lat)) hD hS hA [0, 1] rfl
          refine xc_i (va_runV (As := []) (rest := []) ⟨hx, hb, hml, hown, hts⟩ (met_X5_next l D k  aL H.size Lsigns Llength Lat r11 hc11) (cwV 0 hts gX5_readSum_X5_next rfl rfl rfl (by decide +kernel) ⟨by show 0 + 1 ≤ 5 * (dl + 1) + 7; omega, by show 8 + (1 + 11) + (0) ≤ 150 * (dl + 1) + 300; omega⟩) ⟨pw_blind, va_recv hK hPc (ci := 5) (q0 := 0) rfl rfl, pw_start hPc hK hDc⟩ rfl rfl hl.1 rfl (lv_room (Nat.le_of_ble_eq_true rfl)) dX5_readSum_33 ⟨Nat.zero_le _, Nat.zero_le _⟩) hS hFc (fun H1 locs hP1 hD1 hk1 hS => ?_)
          obtain ⟨hP, hD⟩ := vj (ws' := ((wL k aL Lsigns Llength Lat) ++ (wF k aF Fkinds Flefts Frights Fplaces Fvalues Fslopes Fexponents Fsize Froot))) (w1 := (wL k aL Lsigns Llength Lat)) hP hD [0, 1] [2, 3, 4, 5, 6, 7, 8, 9] [8, 9, 0, 1, 2, 3, 4, 5, 6, 7] rfl rfl rfl rfl rfl hk1 hFc hP1 hD1
          clear hP1 hD1 hk1 hFc
          generalize H1 = H at hP hS ⊢
          refine lv_bipush (v := 45) hx hb dX5_readSum_36 (by decide) ?_
          refine lv_icmp_ne (tgt := 106) hx hb dX5_readSum_38 (by decide) (fun c12 => ?_) (fun c12 => ?_)
          · replace h := sf_f c12 h
            exact hE106 _ _ _ _ _ _ _ h _ _ _ hP hD hS (lv_sub hl [3] rfl)
          · replace h := sf_t c12 h
            exact BH_41 _ ih _ hE106 _ _ _ _ _ _ _ h _ _ _ hP hD hS (lv_sub hl [0, 1, 2, 3] rfl)
  suffices main : ∀ (H : Heap) (locs : List Loc) (ls : Array Slot), va_P D vwCl ((wL k aL Lsigns Llength Lat) ++ (wF k aF Fkinds Flefts Frights Fplaces Fvalues Fslopes Fexponents Fsize Froot)) H → va_D A ((wL k aL Lsigns Llength Lat) ++ (wF k aF Fkinds Flefts Frights Fplaces Fvalues Fslopes Fexponents Fsize Froot)) → va_S A s.heap H locs → lv_has ls 7 [(0, .ref (aL 0)), (1, .ref (aF 0)), (2, .int v2)] → W p l e (rmX5_readSum (dl + 1)) s m args below meth c H locs 0 0 Q (F0 m 0 ls []) from main _ _ _ hP hD hS hl
  clear hP hD hS hl ls hAe
  intro H locs ls hP hD hS hl
  refine lv_aload_n hx hb dX5_readSum_0 rfl (lv_at hl 0 rfl) ?_
  refine lv_aload_n hx hb dX5_readSum_1 rfl (lv_at hl 1 rfl) ?_
  refine lv_iload_n hx hb dX5_readSum_2 rfl (lv_at hl 2 rfl) ?_
  obtain ⟨r1, at__1, Fkinds_1, Flefts_1, Frights_1, Fplaces_1, Fsize_1, hc1, h⟩ := bnd7_inv h
  have hFc := va_free (wc := ((wL k aL Lsigns Llength Lat) ++ (wF k aF Fkinds Flefts Frights Fplaces Fvalues Fslopes Fexponents Fsize Froot))) hD hS hA [0, 1, 2, 3, 4, 5, 6, 7, 8, 9] rfl
  refine xc_i (va_runV (As := [.ref (aF 0), .int v2]) (rest := []) ⟨hx, hb, hml, hown, hts⟩ (met_X5_readTerm l D k dl fP fS hfP hfS aL aF H.size Lsigns Llength Lat Fkinds Flefts Frights Fplaces Fvalues Fslopes Fexponents Fsize Froot v2 r1 at__1 Fkinds_1 Flefts_1 Frights_1 Fplaces_1 Fsize_1 hc1) (cwV 2 hts gX5_readSum_X5_readTerm rfl rfl rfl (by decide +kernel) ⟨by show 5 * (dl + 1) + 6 + 1 ≤ 5 * (dl + 1) + 7; omega, by show 8 + (6 + 11) + (150 * (dl + 1) + 270) ≤ 150 * (dl + 1) + 300; omega⟩) ⟨pw_blind, va_recv hK hP (ci := 5) (q0 := 0) rfl rfl, pw_start hP hK hD⟩ rfl rfl hl.1 rfl (lv_room (Nat.le_of_ble_eq_true rfl)) dX5_readSum_3 ⟨Nat.zero_le _, Nat.zero_le _⟩) hS hFc (fun H1 locs hP1 hD1 hk1 hS => ?_)
  obtain ⟨hP, hD⟩ := vj_all hFc hP1 hD1
  clear hP1 hD1 hk1 hFc
  generalize H1 = H at hP hS ⊢
  refine lv_istore_n (lv' := [(3, .int r1), (0, .ref (aL 0)), (1, .ref (aF 0)), (2, .int v2)]) hx hb dX5_readSum_6 rfl hl (by decide) rfl (fun ls hl => ?_)
  refine LH_7 _ (fun v3 Lat Fkinds Flefts Frights Fplaces Fsize h H locs ls hP hD hS hl => ?_) _ _ _ _ _ _ _ _ h _ _ _ hP hD hS (lv_sub hl [1, 2, 3, 0] rfl)
  · skip
    refine lv_iload_n hx hb dX5_readSum_106 rfl (lv_at hl 0 rfl) ?_
    have hP9 := hP
    have hD9 := hD
    have hS9 := hS
    subst hQ
    cases h
    exact W.iret hx hb hr (fun t ht hW => ⟨⟨_, (), rfl, rfl, by rw [ht]; exact hP9, va_K.moved hW.alike hK, hD9⟩, hS9.F ht⟩) hS9.2.2 dX5_readSum_107
def fRec : Nat → TPs × TPs
  | 0 => (fun _ _ _ _ _ _ _ _ _ => none, fun _ _ _ _ _ _ _ _ _ => none)
  | n + 1 => (fun v2 Lsigns Llength Lat Fkinds Flefts Frights Fplaces Fsize => fX5_readPart v2 Lsigns Llength Lat Fkinds Flefts Frights Fplaces Fsize (fRec n).1 (fRec n).2, fun v2 Lsigns Llength Lat Fkinds Flefts Frights Fplaces Fsize => fX5_readSum v2 Lsigns Llength Lat Fkinds Flefts Frights Fplaces Fsize (fRec n).1 (fRec n).2)
theorem met_rec (l : Launch) (D : va_G) (k : Nat → ClassId) : ∀ n, ConP l D k n (fRec n).1 ∧ ConS l D k n (fRec n).2
  | 0 => ⟨fun _ _ _ _ _ _ _ _ _ _ _ _ _ _ _ _ _ _ _ _ _ _ _ h => by simp [fRec] at h, fun _ _ _ _ _ _ _ _ _ _ _ _ _ _ _ _ _ _ _ _ _ _ _ h => by simp [fRec] at h⟩
  | n + 1 => by
    obtain ⟨a, b⟩ := met_rec l D k n
    exact ⟨fun y0 y1 y2 y3 y4 y5 y6 y7 y8 y9 y10 y11 y12 y13 y14 y15 y16 y17 y18 y19 y20 y21 y22 h => met_X5_readPart l D k n _ _ a b y0 y1 y2 y3 y4 y5 y6 y7 y8 y9 y10 y11 y12 y13 y14 y15 y16 y17 y18 y19 y20 y21 y22 h, fun y0 y1 y2 y3 y4 y5 y6 y7 y8 y9 y10 y11 y12 y13 y14 y15 y16 y17 y18 y19 y20 y21 y22 h => met_X5_readSum l D k n _ _ a b y0 y1 y2 y3 y4 y5 y6 y7 y8 y9 y10 y11 y12 y13 y14 y15 y16 y17 y18 y19 y20 y21 y22 h⟩
def BX5_readInto_48 (Lsigns : Nat → Int32)  (v3 : Int32) (s1 : Int32) (Llength : Int32) (Lat : Int32) (Fkinds : Nat → Int32) (Flefts : Nat → Int32) (Frights : Nat → Int32) (Fplaces : Nat → Int32) (Fsize : Int32) (Froot : Int32) : Option (Int32 × Int32 × Int32 × (Nat → Int32) × (Nat → Int32) × (Nat → Int32) × (Nat → Int32) × Int32 × Int32) := (if v3 = 0 then some (Lat, 0, Lat, Fkinds, Flefts, Frights, Fplaces, Fsize, s1) else some ((-1), 0, Lat, Fkinds, Flefts, Frights, Fplaces, Fsize, s1))
def BX5_readInto_37 (Lsigns : Nat → Int32)  (v2 : Int32) (s0 : Int32) (Llength : Int32) (Lat : Int32) (Fkinds : Nat → Int32) (Flefts : Nat → Int32) (Frights : Nat → Int32) (Fplaces : Nat → Int32) (Fsize : Int32) (Froot : Int32) : Option (Int32 × Int32 × Int32 × (Nat → Int32) × (Nat → Int32) × (Nat → Int32) × (Nat → Int32) × Int32 × Int32) := (if s0 = 0 then BX5_readInto_48 Lsigns s0 0 Llength Lat Fkinds Flefts Frights Fplaces Fsize Froot else BX5_readInto_48 Lsigns s0 v2 Llength Lat Fkinds Flefts Frights Fplaces Fsize Froot)
def BX5_readInto_36 (Lsigns : Nat → Int32)  (v2 : Int32) (Llength : Int32) (Lat : Int32) (Fkinds : Nat → Int32) (Flefts : Nat → Int32) (Frights : Nat → Int32) (Fplaces : Nat → Int32) (Fsize : Int32) (Froot : Int32) : Option (Int32 × Int32 × Int32 × (Nat → Int32) × (Nat → Int32) × (Nat → Int32) × (Nat → Int32) × Int32 × Int32) := BX5_readInto_37 Lsigns v2 0 Llength Lat Fkinds Flefts Frights Fplaces Fsize Froot
def fX5_readInto (Lsigns : Nat → Int32) (Llength : Int32) (Lat : Int32) (Fkinds : Nat → Int32) (Flefts : Nat → Int32) (Frights : Nat → Int32) (Fplaces : Nat → Int32) (Fsize : Int32) (Froot : Int32) : Option (Int32 × Int32 × Int32 × (Nat → Int32) × (Nat → Int32) × (Nat → Int32) × (Nat → Int32) × Int32 × Int32) := bnd2 (fX3_clear Fsize Froot) (fun size_1 root_1 => bnd7 ((fRec 10).2 0 Lsigns Llength 0 Fkinds Flefts Frights Fplaces size_1) (fun r2 at__2 Fkinds_2 Flefts_2 Frights_2 Fplaces_2 Fsize_2 => (if r2 = ((-1)) then BX5_readInto_36 Lsigns r2 Llength at__2 Fkinds_2 Flefts_2 Frights_2 Fplaces_2 Fsize_2 root_1 else (if at__2 = Llength then BX5_readInto_37 Lsigns r2 1 Llength at__2 Fkinds_2 Flefts_2 Frights_2 Fplaces_2 Fsize_2 root_1 else BX5_readInto_36 Lsigns r2 Llength at__2 Fkinds_2 Flefts_2 Frights_2 Fplaces_2 Fsize_2 root_1))))
abbrev rmX5_readInto : Room := { frames := 58, cells := 0, slots := 0, locals := 1826 }
set_option maxHeartbeats 4000000 in
set_option maxRecDepth 100000 in
theorem met_X5_readInto (l : Launch) (D : va_G) (k : Nat → ClassId)  (aL : Nat → Nat) (aF : Nat → Nat) (sz : Nat) (Lsigns : Nat → Int32) (Llength : Int32) (Lat : Int32) (Fkinds : Nat → Int32) (Flefts : Nat → Int32) (Frights : Nat → Int32) (Fplaces : Nat → Int32) (Fvalues : Nat → Int64) (Fslopes : Nat → Int64) (Fexponents : Nat → Int32) (Fsize : Int32) (Froot : Int32)  (r : Int32) (RLlength : Int32) (RLat : Int32) (RFkinds : Nat → Int32) (RFlefts : Nat → Int32) (RFrights : Nat → Int32) (RFplaces : Nat → Int32) (RFsize : Int32) (RFroot : Int32) (h : fX5_readInto Lsigns Llength Lat Fkinds Flefts Frights Fplaces Fsize Froot = some (r, RLlength, RLat, RFkinds, RFlefts, RFrights, RFplaces, RFsize, RFroot)) : Met l yX5_readInto wsX5_readInto rmX5_readInto (va_Pc [.ref (aL 0), .ref (aF 0)] (PreW D k ((wL k aL Lsigns Llength Lat) ++ (wF k aF Fkinds Flefts Frights Fplaces Fvalues Fslopes Fexponents Fsize Froot)) sz)) (va_Qi (fun r9 (_ : Unit) => r9 = r) (fun _ t => PostW D k (va_A ((wL k aL Lsigns Llength Lat) ++ (wF k aF Fkinds Flefts Frights Fplaces Fvalues Fslopes Fexponents Fsize Froot)) sz) ((wL k aL Lsigns RLlength RLat) ++ (wF k aF RFkinds RFlefts RFrights RFplaces Fvalues Fslopes Fexponents RFsize RFroot)) t) (va_A ((wL k aL Lsigns Llength Lat) ++ (wF k aF Fkinds Flefts Frights Fplaces Fvalues Fslopes Fexponents Fsize Froot)) sz)) 0 0 (va_A ((wL k aL Lsigns Llength Lat) ++ (wF k aF Fkinds Flefts Frights Fplaces Fvalues Fslopes Fexponents Fsize Froot)) sz) := by
  refine Met.ofW (cc := cX5_readInto) (maxL := 4) (ret := (some .int)) (by decide) rfl ?_
  intro p e s m args below meth c s₁ B hml hv
  obtain ⟨hav, hsz, hP, hK, hD0⟩ := hv
  have hx := B.exec
  have hb := B.bytes
  have hr := B.returns
  have hts := atoms_spec (ws := wsX5_readInto) B.pre
  have hown : s.vm.findClass RX5 = some m.cls := findClass_of_methodNamed B.named
  have hlocks := B.notSynchronized
  subst hsz
  have hD := hD0.self (sz := s.heap.size)
  clear hD0
  generalize hAe : va_A ((wL k aL Lsigns Llength Lat) ++ (wF k aF Fkinds Flefts Frights Fplaces Fvalues Fslopes Fexponents Fsize Froot)) s.heap.size = A at hD ⊢
  have hA : ∀ q : Nat, s.heap.size ≤ q → A q := fun q h => by rw [← hAe]; exact Or.inr h
  have hS : va_S A s.heap s.heap [] := va_S.rf
  have hl := lv_entry ([.ref (aL 0), .ref (aF 0)]) (n := 4) (Nat.le_of_ble_eq_true rfl)
  rw [show entryFrame m args 4 = entryFrame m ([.ref (aL 0), .ref (aF 0)] : List Value).toArray 4 from by rw [hav], lg_entry_eq]
  generalize (lg_sl ([.ref (aL 0), .ref (aF 0)]) ++ List.replicate (4 - (lg_sl ([.ref (aL 0), .ref (aF 0)])).length) Slot.unset).toArray = ls at hl ⊢
  replace hl : lv_has ls 4 [(0, .ref (aL 0)), (1, .ref (aF 0))] := hl
  have f15 := hts (.fieldLink RX5 15 "UncertainBook$Line" "length" "I") (by decide +kernel)
  have f19 := hts (.fieldLink RX5 19 "UncertainBook$Line" "at" "I") (by decide +kernel)
  have f35 := hts (.fieldLink RX5 35 "UncertainBook$Formula" "root" "I") (by decide +kernel)
  have iX3 : ∀ w ∈ u_ws RX3 TX3 9, w ∈ wsX5_readInto := by decide +kernel
  have iX5 : ∀ w ∈ u_ws RX5 TX5 3, w ∈ wsX5_readInto := by decide +kernel
  refine w_q (fun Q hQ => ?_)
  unfold fX5_readInto at h
  show W p l e rmX5_readInto s m args below meth c s.heap [] 0 0 Q (F0 m 0 ls [])
  have BH_48 : ∀ (v3 : Int32) (s1 : Int32) (Llength : Int32) (Lat : Int32) (Fkinds : Nat → Int32) (Flefts : Nat → Int32) (Frights : Nat → Int32) (Fplaces : Nat → Int32) (Fsize : Int32) (Froot : Int32), BX5_readInto_48 Lsigns v3 s1 Llength Lat Fkinds Flefts Frights Fplaces Fsize Froot = some (r, RLlength, RLat, RFkinds, RFlefts, RFrights, RFplaces, RFsize, RFroot) → ∀ (H : Heap) (locs : List Loc) (ls : Array Slot), va_P D vwCl ((wL k aL Lsigns Llength Lat) ++ (wF k aF Fkinds Flefts Frights Fplaces Fvalues Fslopes Fexponents Fsize Froot)) H → va_D A ((wL k aL Lsigns Llength Lat) ++ (wF k aF Fkinds Flefts Frights Fplaces Fvalues Fslopes Fexponents Fsize Froot)) → va_S A s.heap H locs → lv_has ls 4 [(0, .ref (aL 0)), (3, .int v3)] → W p l e rmX5_readInto s m args below meth c H locs 0 0 Q (F0 m 48 ls [.int s1, .ref (aF 0)]) := by
    intro  v3 s1 Llength Lat Fkinds Flefts Frights Fplaces Fsize Froot h H locs ls hP hD hS hl
    unfold BX5_readInto_48 at h
    refine va_put (D := D) (ci := 3) (v := .int s1) (ty := .int) (C := RX3) (T := TX3) (N := 9) hx hb hts iX3 tyX3 tyX3_ok nmX3 hown hK hP hD hS 2 rfl rfl 8 (by decide) f35 (fun _ h9 => h9) rfl (by decide +kernel) rfl rfl (Nat.le_of_ble_eq_true rfl) dX5_readInto_48 (fun H locs hP hD hS => ?_)
    replace hP : va_P D vwCl ((wL k aL Lsigns Llength Lat) ++ (wF k aF Fkinds Flefts Frights Fplaces Fvalues Fslopes Fexponents Fsize s1)) H := hP
    replace hD : va_D A ((wL k aL Lsigns Llength Lat) ++ (wF k aF Fkinds Flefts Frights Fplaces Fvalues Fslopes Fexponents Fsize s1)) := hD
    refine lv_aload_n hx hb dX5_readInto_51 rfl (lv_at hl 0 rfl) ?_
    refine lv_iconst (v := 0) hx hb dX5_readInto_52 (by decide) ?_
    refine va_put (D := D) (ci := 5) (v := .int 0) (ty := .int) (C := RX5) (T := TX5) (N := 3) hx hb hts iX5 tyX5 tyX5_ok nmX5 hown hK hP hD hS 0 rfl rfl 1 (by decide) f15 (fun _ h9 => h9) rfl (by decide +kernel) rfl rfl (Nat.le_of_ble_eq_true rfl) dX5_readInto_53 (fun H locs hP hD hS => ?_)
    replace hP : va_P D vwCl ((wL k aL Lsigns 0 Lat) ++ (wF k aF Fkinds Flefts Frights Fplaces Fvalues Fslopes Fexponents Fsize s1)) H := hP
    replace hD : va_D A ((wL k aL Lsigns 0 Lat) ++ (wF k aF Fkinds Flefts Frights Fplaces Fvalues Fslopes Fexponents Fsize s1)) := hD
    refine lv_iload_n hx hb dX5_readInto_56 rfl (lv_at hl 1 rfl) ?_
    refine lv_if_eq (tgt := 64) hx hb dX5_readInto_57 (by decide) (fun c5 => ?_) (fun c5 => ?_)
    · replace h := sf_t c5 h
      refine lv_aload_n hx hb dX5_readInto_64 rfl (lv_at hl 0 rfl) ?_
      refine va_get (D := D) (ci := 5) (v := .int Lat) (C := RX5) (T := TX5) (N := 3) hx hb hts iX5 hown hK hP 0 rfl rfl 2 (by decide) f19 (fun _ h9 => h9) rfl dX5_readInto_65 ?_
      have hP9 := hP
      have hD9 := hD
      have hS9 := hS
      subst hQ
      cases h
      exact W.iret hx hb hr (fun t ht hW => ⟨⟨_, (), rfl, rfl, by rw [ht]; exact hP9, va_K.moved hW.alike hK, hD9⟩, hS9.F ht⟩) hS9.2.2 dX5_readInto_68
    · replace h := sf_f c5 h
      refine lv_iconst (v := -1) hx hb dX5_readInto_60 (by decide) ?_
      refine lv_goto (tgt := 68) hx hb dX5_readInto_61 (by decide) ?_
      have hP9 := hP
      have hD9 := hD
      have hS9 := hS
      subst hQ
      cases h
      exact W.iret hx hb hr (fun t ht hW => ⟨⟨_, (), rfl, rfl, by rw [ht]; exact hP9, va_K.moved hW.alike hK, hD9⟩, hS9.F ht⟩) hS9.2.2 dX5_readInto_68
  have BH_37 : ∀ (v2 : Int32) (s0 : Int32) (Llength : Int32) (Lat : Int32) (Fkinds : Nat → Int32) (Flefts : Nat → Int32) (Frights : Nat → Int32) (Fplaces : Nat → Int32) (Fsize : Int32) (Froot : Int32), BX5_readInto_37 Lsigns v2 s0 Llength Lat Fkinds Flefts Frights Fplaces Fsize Froot = some (r, RLlength, RLat, RFkinds, RFlefts, RFrights, RFplaces, RFsize, RFroot) → ∀ (H : Heap) (locs : List Loc) (ls : Array Slot), va_P D vwCl ((wL k aL Lsigns Llength Lat) ++ (wF k aF Fkinds Flefts Frights Fplaces Fvalues Fslopes Fexponents Fsize Froot)) H → va_D A ((wL k aL Lsigns Llength Lat) ++ (wF k aF Fkinds Flefts Frights Fplaces Fvalues Fslopes Fexponents Fsize Froot)) → va_S A s.heap H locs → lv_has ls 4 [(0, .ref (aL 0)), (1, .ref (aF 0)), (2, .int v2)] → W p l e rmX5_readInto s m args below meth c H locs 0 0 Q (F0 m 37 ls [.int s0]) := by
    intro  v2 s0 Llength Lat Fkinds Flefts Frights Fplaces Fsize Froot h H locs ls hP hD hS hl
    unfold BX5_readInto_37 at h
    refine lv_istore_n (lv' := [(3, .int s0), (0, .ref (aL 0)), (1, .ref (aF 0)), (2, .int v2)]) hx hb dX5_readInto_37 rfl hl (by decide) rfl (fun ls hl => ?_)
    refine lv_aload_n hx hb dX5_readInto_38 rfl (lv_at hl 2 rfl) ?_
    refine lv_iload_n hx hb dX5_readInto_39 rfl (lv_at hl 0 rfl) ?_
    refine lv_if_eq (tgt := 47) hx hb dX5_readInto_40 (by decide) (fun c4 => ?_) (fun c4 => ?_)
    · replace h := sf_t c4 h
      refine lv_iconst (v := 0) hx hb dX5_readInto_47 (by decide) ?_
      exact BH_48  _ _ _ _ _ _ _ _ _ _ h _ _ _ hP hD hS (lv_sub hl [1, 0] rfl)
    · replace h := sf_f c4 h
      refine lv_iload_n hx hb dX5_readInto_43 rfl (lv_at hl 3 rfl) ?_
      refine lv_goto (tgt := 48) hx hb dX5_readInto_44 (by decide) ?_
      exact BH_48  _ _ _ _ _ _ _ _ _ _ h _ _ _ hP hD hS (lv_sub hl [1, 0] rfl)
  have BH_36 : ∀ (v2 : Int32) (Llength : Int32) (Lat : Int32) (Fkinds : Nat → Int32) (Flefts : Nat → Int32) (Frights : Nat → Int32) (Fplaces : Nat → Int32) (Fsize : Int32) (Froot : Int32), BX5_readInto_36 Lsigns v2 Llength Lat Fkinds Flefts Frights Fplaces Fsize Froot = some (r, RLlength, RLat, RFkinds, RFlefts, RFrights, RFplaces, RFsize, RFroot) → ∀ (H : Heap) (locs : List Loc) (ls : Array Slot), va_P D vwCl ((wL k aL Lsigns Llength Lat) ++ (wF k aF Fkinds Flefts Frights Fplaces Fvalues Fslopes Fexponents Fsize Froot)) H → va_D A ((wL k aL Lsigns Llength Lat) ++ (wF k aF Fkinds Flefts Frights Fplaces Fvalues Fslopes Fexponents Fsize Froot)) → va_S A s.heap H locs → lv_has ls 4 [(0, .ref (aL 0)), (1, .ref (aF 0)), (2, .int v2)] → W p l e rmX5_readInto s m args below meth c H locs 0 0 Q (F0 m 36 ls []) := by
    intro  v2 Llength Lat Fkinds Flefts Frights Fplaces Fsize Froot h H locs ls hP hD hS hl
    unfold BX5_readInto_36 at h
    refine lv_iconst (v := 0) hx hb dX5_readInto_36 (by decide) ?_
    exact BH_37  _ _ _ _ _ _ _ _ _ _ h _ _ _ hP hD hS (lv_sub hl [0, 1, 2] rfl)
  suffices main : ∀ (H : Heap) (locs : List Loc) (ls : Array Slot), va_P D vwCl ((wL k aL Lsigns Llength Lat) ++ (wF k aF Fkinds Flefts Frights Fplaces Fvalues Fslopes Fexponents Fsize Froot)) H → va_D A ((wL k aL Lsigns Llength Lat) ++ (wF k aF Fkinds Flefts Frights Fplaces Fvalues Fslopes Fexponents Fsize Froot)) → va_S A s.heap H locs → lv_has ls 4 [(0, .ref (aL 0)), (1, .ref (aF 0))] → W p l e rmX5_readInto s m args below meth c H locs 0 0 Q (F0 m 0 ls []) from main _ _ _ hP hD hS hl
  clear hP hD hS hl ls hAe
  intro H locs ls hP hD hS hl
  refine lv_aload_n hx hb dX5_readInto_0 rfl (lv_at hl 1 rfl) ?_
  obtain ⟨size_1, root_1, hc1, h⟩ := bnd2_inv h
  have hPc := hP.sub (ws' := (wF k aF Fkinds Flefts Frights Fplaces Fvalues Fslopes Fexponents Fsize Froot)) [2, 3, 4, 5, 6, 7, 8, 9] rfl
  have hDc := hD.sub (ws' := (wF k aF Fkinds Flefts Frights Fplaces Fvalues Fslopes Fexponents Fsize Froot)) [2, 3, 4, 5, 6, 7, 8, 9] rfl rfl
  have hFc := va_free (wc := (wF k aF Fkinds Flefts Frights Fplaces Fvalues Fslopes Fexponents Fsize Froot)) hD hS hA [2, 3, 4, 5, 6, 7, 8, 9] rfl
  refine xc_v (va_runV (As := []) (rest := []) ⟨hx, hb, hml, hown, hts⟩ (met_X3_clear l D k  aF H.size Fkinds Flefts Frights Fplaces Fvalues Fslopes Fexponents Fsize Froot size_1 root_1 hc1) (cwV 0 hts gX5_readInto_X3_clear rfl rfl rfl (by decide +kernel) ⟨Nat.le_of_ble_eq_true rfl, Nat.le_of_ble_eq_true rfl⟩) ⟨pw_blind, va_recv hK hPc (ci := 3) (q0 := 0) rfl rfl, pw_start hPc hK hDc⟩ rfl rfl hl.1 rfl (lv_room (Nat.le_of_ble_eq_true rfl)) dX5_readInto_1 ⟨Nat.zero_le _, Nat.zero_le _⟩) hS hFc (fun H1 locs hP1 hD1 hk1 hS => ?_)
  obtain ⟨hP, hD⟩ := vj (ws' := ((wL k aL Lsigns Llength Lat) ++ (wF k aF Fkinds Flefts Frights Fplaces Fvalues Fslopes Fexponents size_1 root_1))) (w1 := (wF k aF Fkinds Flefts Frights Fplaces Fvalues Fslopes Fexponents size_1 root_1)) hP hD [2, 3, 4, 5, 6, 7, 8, 9] [0, 1] [0, 1, 2, 3, 4, 5, 6, 7, 8, 9] rfl rfl rfl rfl rfl hk1 hFc hP1 hD1
  clear hP1 hD1 hk1 hFc
  generalize H1 = H at hP hS ⊢
  refine lv_aload_n hx hb dX5_readInto_4 rfl (lv_at hl 0 rfl) ?_
  refine lv_iconst (v := 0) hx hb dX5_readInto_5 (by decide) ?_
  refine va_put (D := D) (ci := 5) (v := .int 0) (ty := .int) (C := RX5) (T := TX5) (N := 3) hx hb hts iX5 tyX5 tyX5_ok nmX5 hown hK hP hD hS 0 rfl rfl 2 (by decide) f19 (fun _ h9 => h9) rfl (by decide +kernel) rfl rfl (Nat.le_of_ble_eq_true rfl) dX5_readInto_6 (fun H locs hP hD hS => ?_)
  replace hP : va_P D vwCl ((wL k aL Lsigns Llength 0) ++ (wF k aF Fkinds Flefts Frights Fplaces Fvalues Fslopes Fexponents size_1 root_1)) H := hP
  replace hD : va_D A ((wL k aL Lsigns Llength 0) ++ (wF k aF Fkinds Flefts Frights Fplaces Fvalues Fslopes Fexponents size_1 root_1)) := hD
  refine lv_aload_n hx hb dX5_readInto_9 rfl (lv_at hl 0 rfl) ?_
  refine lv_aload_n hx hb dX5_readInto_10 rfl (lv_at hl 1 rfl) ?_
  refine lv_iconst (v := 0) hx hb dX5_readInto_11 (by decide) ?_
  obtain ⟨r2, at__2, Fkinds_2, Flefts_2, Frights_2, Fplaces_2, Fsize_2, hc2, h⟩ := bnd7_inv h
  have hFc := va_free (wc := ((wL k aL Lsigns Llength 0) ++ (wF k aF Fkinds Flefts Frights Fplaces Fvalues Fslopes Fexponents size_1 root_1))) hD hS hA [0, 1, 2, 3, 4, 5, 6, 7, 8, 9] rfl
  refine xc_i (va_runV (As := [.ref (aF 0), .int 0]) (rest := []) ⟨hx, hb, hml, hown, hts⟩ ((met_rec l D k 10).2 aL aF H.size Lsigns Llength 0 Fkinds Flefts Frights Fplaces Fvalues Fslopes Fexponents size_1 root_1 0 r2 at__2 Fkinds_2 Flefts_2 Frights_2 Fplaces_2 Fsize_2 hc2) (cwV 2 hts gX5_readInto_X5_readSum rfl rfl rfl (by decide +kernel) ⟨Nat.le_of_ble_eq_true rfl, Nat.le_of_ble_eq_true rfl⟩) ⟨pw_blind, va_recv hK hP (ci := 5) (q0 := 0) rfl rfl, pw_start hP hK hD⟩ rfl rfl hl.1 rfl (lv_room (Nat.le_of_ble_eq_true rfl)) dX5_readInto_12 ⟨Nat.zero_le _, Nat.zero_le _⟩) hS hFc (fun H1 locs hP1 hD1 hk1 hS => ?_)
  obtain ⟨hP, hD⟩ := vj_all hFc hP1 hD1
  clear hP1 hD1 hk1 hFc
  generalize H1 = H at hP hS ⊢
  refine lv_istore_n (lv' := [(2, .int r2), (0, .ref (aL 0)), (1, .ref (aF 0))]) hx hb dX5_readInto_15 rfl hl (by decide) rfl (fun ls hl => ?_)
  refine lv_iload_n hx hb dX5_readInto_16 rfl (lv_at hl 0 rfl) ?_
  refine lv_iconst (v := -1) hx hb dX5_readInto_17 (by decide) ?_
  refine lv_icmp_eq (tgt := 36) hx hb dX5_readInto_18 (by decide) (fun c3 => ?_) (fun c3 => ?_)
  · replace h := sf_t c3 h
    exact BH_36  _ _ _ _ _ _ _ _ _ h _ _ _ hP hD hS (lv_sub hl [1, 2, 0] rfl)
  · replace h := sf_f c3 h
    refine lv_aload_n hx hb dX5_readInto_21 rfl (lv_at hl 1 rfl) ?_
    refine va_get (D := D) (ci := 5) (v := .int at__2) (C := RX5) (T := TX5) (N := 3) hx hb hts iX5 hown hK hP 0 rfl rfl 2 (by decide) f19 (fun _ h9 => h9) rfl dX5_readInto_22 ?_
    refine lv_aload_n hx hb dX5_readInto_25 rfl (lv_at hl 1 rfl) ?_
    refine va_get (D := D) (ci := 5) (v := .int Llength) (C := RX5) (T := TX5) (N := 3) hx hb hts iX5 hown hK hP 0 rfl rfl 1 (by decide) f15 (fun _ h9 => h9) rfl dX5_readInto_26 ?_
    refine lv_icmp_ne (tgt := 36) hx hb dX5_readInto_29 (by decide) (fun c6 => ?_) (fun c6 => ?_)
    · replace h := sf_f c6 h
      exact BH_36  _ _ _ _ _ _ _ _ _ h _ _ _ hP hD hS (lv_sub hl [1, 2, 0] rfl)
    · replace h := sf_t c6 h
      refine lv_iconst (v := 1) hx hb dX5_readInto_32 (by decide) ?_
      refine lv_goto (tgt := 37) hx hb dX5_readInto_33 (by decide) ?_
      exact BH_37  _ _ _ _ _ _ _ _ _ _ h _ _ _ hP hD hS (lv_sub hl [1, 2, 0] rfl)
