/-! ===== the law's draws from its script ===== -/
abbrev rmL_draw : Room := { frames := 0, cells := 0, slots := 0, locals := 0 }
def PreD9 (b L : Nat) (xs : Nat → Int32) (sz : Nat) : State → Prop := fun U => U.heap.size = sz ∧ b < sz ∧ va_X b L xs U U.heap
theorem pd9_blind {av : List Value} {b L : Nat} {xs : Nat → Int32} {sz : Nat} : FrameBlind (va_Pc av (PreD9 b L xs sz)) := fun a U g mk q => by
  obtain ⟨q0, q1, q2, q3⟩ := q
  exact ⟨q0, q1, q2, va_X.moved (u := U) (U := U.calling g mk a) (Vm.Alike.refl U.vm) q3⟩
theorem pd9_start {av : List Value} {b L : Nat} {xs : Nat → Int32} {H : Heap} {s : State} (hbl : b < H.size) (hX : va_X b L xs s H) : ∀ U : State, U.heap = H → s.WarmedH U.vm → va_Pc av (PreD9 b L xs H.size) av.toArray U := fun U hU hW => ⟨rfl, by rw [hU], hbl, by rw [hU]; exact hX.moved hW.alike⟩
set_option maxHeartbeats 4000000 in
set_option maxRecDepth 100000 in
theorem met_L_draw (l : Launch) (b L : Nat) (xs : Nat → Int32) (hL : L < 2 ^ 31) {i : Nat} (hi : i < L) (sz : Nat) : Met l yL_draw wsL_draw rmL_draw (va_Pc [.ref b, .int (nI i)] (PreD9 b L xs sz)) (va_Qi (fun r9 (_ : Unit) => ∃ n : Nat, n < 2 ^ 31 ∧ r9 = nI n) (fun _ _ => True) (va_A ([] : va_W) sz)) 0 0 (va_A ([] : va_W) sz) := by
  refine Met.ofW (cc := cL_draw) (maxL := 2) (ret := (some .int)) (by decide) rfl ?_
  intro p e s m args below meth c s₁ B hml hv
  obtain ⟨hav, hsz, hbl, hX⟩ := hv
  have hx := B.exec
  have hb := B.bytes
  have hr := B.returns
  have hts := atoms_spec (ws := wsL_draw) B.pre
  have hown : s.vm.findClass RL = some m.cls := findClass_of_methodNamed B.named
  have hlocks := B.notSynchronized
  subst hsz
  generalize hAe : va_A ([] : va_W) s.heap.size = A
  have hbA : ¬ A b := fun q => by
    rw [← hAe] at q
    rcases q with ⟨k, e, hk⟩ | q
    · simp at hk
    · exact absurd hbl (Nat.not_lt.mpr q)
  have hS : va_S A s.heap s.heap [] := va_S.rf
  have hl := lv_entry ([.ref b, .int (nI i)]) (n := 2) (Nat.le_of_ble_eq_true rfl)
  rw [show entryFrame m args 2 = entryFrame m ([.ref b, .int (nI i)] : List Value).toArray 2 from by rw [hav], lg_entry_eq]
  generalize (lg_sl ([.ref b, .int (nI i)]) ++ List.replicate (2 - (lg_sl ([.ref b, .int (nI i)])).length) Slot.unset).toArray = ls at hl ⊢
  replace hl : lv_has ls 2 [(0, .ref b), (1, .int (nI i))] := hl
  have kc7 := hts (.constant RL 7 (2147483647)) (by decide +kernel)
  show W p l e rmL_draw s m args below meth c s.heap [] 0 0 _ (F0 m 0 ls [])
  refine lv_iload_n hx hb dL_draw_0 rfl (lv_at hl 1 rfl) ?_
  refine lv_aload_n hx hb dL_draw_1 rfl (lv_at hl 0 rfl) ?_
  refine va_slen hx hb hX hbl hbA hS dL_draw_2 ?_
  refine lv_icmp_ge (tgt := 15) hx hb dL_draw_3 (by decide) (fun q => ?_) (fun q => ?_)
  · have q : nI L ≤ nI i := q
    have := (nI_leI (by omega) (by omega)).mp q
    omega
  · refine lv_aload_n hx hb dL_draw_6 rfl (lv_at hl 0 rfl) ?_
    refine lv_iload_n hx hb dL_draw_7 rfl (lv_at hl 1 rfl) ?_
    refine va_sld hx hb hX hbl hbA hS (vp_in_nI hi (by omega)) dL_draw_8 ?_
    refine lv_ldc (v := 2147483647) hx hb hown kc7 dL_draw_9 ?_
    refine lv_iand hx hb dL_draw_11 ?_
    refine lv_goto (tgt := 24) hx hb dL_draw_12 (by decide) ?_
    obtain ⟨n, h1, h2⟩ := pk_andE (xs (nI i).toNatClampNeg) (m := 2147483647) 31 (by decide)
    exact W.iret hx hb hr (fun t ht hW => ⟨⟨_, (), rfl, ⟨n, h1, h2⟩, trivial⟩, hS.F ht⟩) hS.2.2 dL_draw_24
