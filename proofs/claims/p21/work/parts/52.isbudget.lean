def BL_isBudget_73 (K9 : Int32 → OBk → Prop) (v1 : Int32) (K : Int64 → Int32 → Int32 → OBk → Prop) (E98 : Int64 → Int32 → OBk → Prop) (v2 : Int64) (v5 : Int32) (v6 : Int64) (s0 : Int32) (Ob : OBk) : Prop := cb_input v5 1 Ob (fun r6 Ob6 => K (v2 + ((v6 * v6) * ((r6 : Int32).toInt64))) s0 (v5 + 1) Ob6)
def BL_isBudget_72 (K9 : Int32 → OBk → Prop) (v1 : Int32) (K : Int64 → Int32 → Int32 → OBk → Prop) (E98 : Int64 → Int32 → OBk → Prop) (v2 : Int64) (v5 : Int32) (v6 : Int64) (Ob : OBk) : Prop := BL_isBudget_73 K9 v1 (K) E98 v2 v5 v6 0 Ob
def LL_isBudget_8 (K9 : Int32 → OBk → Prop) (v1 : Int32) (E98 : Int64 → Int32 → OBk → Prop) : Nat → Int64 → Int32 → Int32 → OBk → Prop
  | 0, _, _, _, _ => False
  | fuel + 1, v2, v4, v5, Ob => (if 6 ≤ v5 then E98 v2 v4 Ob else (if v4 = 0 then E98 v2 v4 Ob else cb_sensitivity v1 v5 Ob (fun r3 Ob3 => cb_sensitivityAnew v1 v5 Ob3 (fun r4 Ob4 => (if (lg_cmp r3 r4) = 0 then cb_contribution v1 v5 0 Ob4 (fun r7 Ob7 => cb_input v5 1 Ob7 (fun r8 Ob8 => (if (lg_cmp r7 ((r3 * r3) * ((r8 : Int32).toInt64))) = 0 then BL_isBudget_73 K9 v1 (LL_isBudget_8 K9 v1 E98 fuel) E98 v2 v5 r3 1 Ob8 else BL_isBudget_72 K9 v1 (LL_isBudget_8 K9 v1 E98 fuel) E98 v2 v5 r3 Ob8))) else BL_isBudget_72 K9 v1 (LL_isBudget_8 K9 v1 E98 fuel) E98 v2 v5 r3 Ob4)))))
def BL_isBudget_252 (K9 : Int32 → OBk → Prop) (v1 : Int32) (K : Int64 → Int32 → Int32 → OBk → Prop) (E286 : Int64 → Int32 → OBk → Prop) (v2 : Int64) (v5 : Int32) (v6 : Int32) (v7 : Int32) (v8 : Int32) (s0 : Int32) (Ob : OBk) : Prop := cb_sensitivity v1 v6 Ob (fun r23 Ob23 => cb_sensitivity v1 v7 Ob23 (fun r24 Ob24 => K (v2 + (2 * ((r23 * r24) * ((v8 : Int32).toInt64)))) s0 (v5 + 1) Ob24))
def BL_isBudget_217 (K9 : Int32 → OBk → Prop) (v1 : Int32) (K : Int64 → Int32 → Int32 → OBk → Prop) (E286 : Int64 → Int32 → OBk → Prop) (v2 : Int64) (v5 : Int32) (v6 : Int32) (s0 : Int32) (Ob : OBk) : Prop := cb_together v6 s0 0 Ob (fun r20 Ob20 => cb_together v6 s0 r20 Ob20 (fun r21 Ob21 => (if r21 = 0 then BL_isBudget_252 K9 v1 (K) E286 v2 v5 v6 s0 r20 1 Ob21 else BL_isBudget_252 K9 v1 (K) E286 v2 v5 v6 s0 r20 0 Ob21)))
def BL_isBudget_157 (K9 : Int32 → OBk → Prop) (v1 : Int32) (K : Int64 → Int32 → Int32 → OBk → Prop) (E286 : Int64 → Int32 → OBk → Prop) (v2 : Int64) (v5 : Int32) (s0 : Int32) (Ob : OBk) : Prop := (if 5 ≤ v5 then (if 9 ≤ v5 then (if 12 ≤ v5 then (if 14 ≤ v5 then BL_isBudget_217 K9 v1 (K) E286 v2 v5 s0 5 Ob else BL_isBudget_217 K9 v1 (K) E286 v2 v5 s0 (v5 - 8) Ob) else BL_isBudget_217 K9 v1 (K) E286 v2 v5 s0 (v5 - 6) Ob) else BL_isBudget_217 K9 v1 (K) E286 v2 v5 s0 (v5 - 3) Ob) else BL_isBudget_217 K9 v1 (K) E286 v2 v5 s0 (v5 + 1) Ob)
def LL_isBudget_101 (K9 : Int32 → OBk → Prop) (v1 : Int32) (E286 : Int64 → Int32 → OBk → Prop) : Nat → Int64 → Int32 → Int32 → OBk → Prop
  | 0, _, _, _, _ => False
  | fuel + 1, v2, v4, v5, Ob => (if 15 ≤ v5 then E286 v2 v4 Ob else (if v4 = 0 then E286 v2 v4 Ob else (if 5 ≤ v5 then (if 9 ≤ v5 then (if 12 ≤ v5 then (if 14 ≤ v5 then BL_isBudget_157 K9 v1 (LL_isBudget_101 K9 v1 E286 fuel) E286 v2 v5 4 Ob else BL_isBudget_157 K9 v1 (LL_isBudget_101 K9 v1 E286 fuel) E286 v2 v5 3 Ob) else BL_isBudget_157 K9 v1 (LL_isBudget_101 K9 v1 E286 fuel) E286 v2 v5 2 Ob) else BL_isBudget_157 K9 v1 (LL_isBudget_101 K9 v1 E286 fuel) E286 v2 v5 1 Ob) else BL_isBudget_157 K9 v1 (LL_isBudget_101 K9 v1 E286 fuel) E286 v2 v5 0 Ob)))
def BL_isBudget_611 (K9 : Int32 → OBk → Prop) (v1 : Int32) (K : Int32 → Int64 → Int32 → Int32 → OBk → Prop) (E628 : Int32 → Int32 → OBk → Prop) (v5 : Int64) (v11 : Int32) (v12 : Int32) (v13 : Int32) (s0 : Int32) (Ob : OBk) : Prop := K s0 v5 (v11 ||| ((1 : Int32) <<< ((v13 : Int32) &&& 31))) (v12 + 1) Ob
def BL_isBudget_610 (K9 : Int32 → OBk → Prop) (v1 : Int32) (K : Int32 → Int64 → Int32 → Int32 → OBk → Prop) (E628 : Int32 → Int32 → OBk → Prop) (v5 : Int64) (v11 : Int32) (v12 : Int32) (v13 : Int32) (Ob : OBk) : Prop := BL_isBudget_611 K9 v1 (K) E628 v5 v11 v12 v13 0 Ob
def BL_isBudget_602 (K9 : Int32 → OBk → Prop) (v1 : Int32) (K : Int32 → Int64 → Int32 → Int32 → OBk → Prop) (E628 : Int32 → Int32 → OBk → Prop) (v5 : Int64) (v11 : Int32) (v12 : Int32) (v13 : Int32) (s0 : Int64) (s1 : Int64) (Ob : OBk) : Prop := (if (lg_cmp s0 s1) = 0 then BL_isBudget_611 K9 v1 (K) E628 v5 v11 v12 v13 1 Ob else BL_isBudget_610 K9 v1 (K) E628 v5 v11 v12 v13 Ob)
def BL_isBudget_561 (K9 : Int32 → OBk → Prop) (v1 : Int32) (K : Int32 → Int64 → Int32 → Int32 → OBk → Prop) (E628 : Int32 → Int32 → OBk → Prop) (v5 : Int64) (v11 : Int32) (v12 : Int32) (v13 : Int32) (s0 : Int32) (Ob : OBk) : Prop := (if s0 = 0 then BL_isBudget_610 K9 v1 (K) E628 v5 v11 v12 v13 Ob else cb_contribution v1 v13 1 Ob (fun r39 Ob39 => (if (lg_cmp v5 0) = 0 then BL_isBudget_602 K9 v1 (K) E628 v5 v11 v12 v13 r39 0 Ob39 else cb_contribution v1 v13 0 Ob39 (fun r41 Ob41 => (¬ v5 = 0 ∧ (BL_isBudget_602 K9 v1 (K) E628 v5 v11 v12 v13 r39 ((100 * r41) / v5) Ob41))))))
def BL_isBudget_556 (K9 : Int32 → OBk → Prop) (v1 : Int32) (K : Int32 → Int64 → Int32 → Int32 → OBk → Prop) (E628 : Int32 → Int32 → OBk → Prop) (v5 : Int64) (v11 : Int32) (v12 : Int32) (v13 : Int32) (Ob : OBk) : Prop := BL_isBudget_561 K9 v1 (K) E628 v5 v11 v12 v13 1 Ob
def BL_isBudget_560 (K9 : Int32 → OBk → Prop) (v1 : Int32) (K : Int32 → Int64 → Int32 → Int32 → OBk → Prop) (E628 : Int32 → Int32 → OBk → Prop) (v5 : Int64) (v11 : Int32) (v12 : Int32) (v13 : Int32) (Ob : OBk) : Prop := BL_isBudget_561 K9 v1 (K) E628 v5 v11 v12 v13 0 Ob
def BL_isBudget_509 (K9 : Int32 → OBk → Prop) (v1 : Int32) (K : Int32 → Int64 → Int32 → Int32 → OBk → Prop) (E628 : Int32 → Int32 → OBk → Prop) (v5 : Int64) (v11 : Int32) (v12 : Int32) (v13 : Int32) (s0 : Int32) (Ob : OBk) : Prop := cb_contribution v1 s0 0 Ob (fun r35 Ob35 => cb_contribution v1 v13 0 Ob35 (fun r36 Ob36 => (if 0 < (lg_cmp r35 r36) then BL_isBudget_556 K9 v1 (K) E628 v5 v11 v12 v13 Ob36 else cb_contribution v1 v13 0 Ob36 (fun r44 Ob44 => (if (lg_cmp r35 r44) = 0 then (if v13 < s0 then BL_isBudget_560 K9 v1 (K) E628 v5 v11 v12 v13 Ob44 else BL_isBudget_556 K9 v1 (K) E628 v5 v11 v12 v13 Ob44) else BL_isBudget_560 K9 v1 (K) E628 v5 v11 v12 v13 Ob44)))))
def LL_isBudget_469 (K9 : Int32 → OBk → Prop) (v1 : Int32) (E628 : Int32 → Int32 → OBk → Prop) : Nat → Int32 → Int64 → Int32 → Int32 → OBk → Prop
  | 0, _, _, _, _, _ => False
  | fuel + 1, v4, v5, v11, v12, Ob => (if 6 ≤ v12 then E628 v4 v11 Ob else (if v4 = 0 then E628 v4 v11 Ob else cb_ranked v1 v12 Ob (fun r32 Ob32 => (if v12 = 0 then BL_isBudget_509 K9 v1 (LL_isBudget_469 K9 v1 E628 fuel) E628 v5 v11 v12 r32 r32 Ob32 else cb_ranked v1 (v12 - 1) Ob32 (fun r34 Ob34 => BL_isBudget_509 K9 v1 (LL_isBudget_469 K9 v1 E628 fuel) E628 v5 v11 v12 r32 r34 Ob34)))))
def BL_isBudget_628 (K9 : Int32 → OBk → Prop) (v1 : Int32)  (v4 : Int32) (v11 : Int32) (Ob : OBk) : Prop := (if v4 = 0 then (narrow .boolean (.int 0) = .int 0 ∧ K9 0 Ob) else (if v11 = 63 then cb_ranked v1 6 Ob (fun r49 Ob49 => (if r49 = ((-1)) then cb_disagrees v1 Ob49 (fun r51 Ob51 => (if 60 ≤ r51 then (narrow .boolean (.int 0) = .int 0 ∧ K9 0 Ob51) else (narrow .boolean (.int 1) = .int 1 ∧ K9 1 Ob51))) else (narrow .boolean (.int 0) = .int 0 ∧ K9 0 Ob49))) else (narrow .boolean (.int 0) = .int 0 ∧ K9 0 Ob)))
def BL_isBudget_461 (K9 : Int32 → OBk → Prop) (v1 : Int32)  (v5 : Int64) (s0 : Int32) (Ob : OBk) : Prop := LL_isBudget_469 K9 v1 (fun (v4 : Int32) (v11 : Int32) (Ob : OBk) => BL_isBudget_628 K9 v1 v4 v11 Ob) 1000 s0 v5 0 0 Ob
def BL_isBudget_460 (K9 : Int32 → OBk → Prop) (v1 : Int32)  (v5 : Int64) (Ob : OBk) : Prop := BL_isBudget_461 K9 v1 v5 0 Ob
def BL_isBudget_434 (K9 : Int32 → OBk → Prop) (v1 : Int32)  (v5 : Int64) (v9 : Int64) (s0 : Int64) (s1 : Int64) (Ob : OBk) : Prop := (if (lg_cmp s0 s1) = 0 then (if (lg_cmp v9 ((-1))) < 0 then BL_isBudget_460 K9 v1 v5 Ob else (if 0 ≤ (lg_cmp v9 1000) then BL_isBudget_460 K9 v1 v5 Ob else BL_isBudget_461 K9 v1 v5 1 Ob)) else BL_isBudget_460 K9 v1 v5 Ob)
def BL_isBudget_419 (K9 : Int32 → OBk → Prop) (v1 : Int32)  (v5 : Int64) (v9 : Int64) (s0 : Int64) (Ob : OBk) : Prop := BL_isBudget_434 K9 v1 v5 v9 s0 ((-1)) Ob
def BL_isBudget_380 (K9 : Int32 → OBk → Prop) (v1 : Int32)  (v5 : Int64) (v7 : Int64) (s0 : Int32) (Ob : OBk) : Prop := cb_budget v1 3 Ob (fun r28 Ob28 => (if s0 = 0 then BL_isBudget_460 K9 v1 v5 Ob28 else cb_budget v1 4 Ob28 (fun r53 Ob53 => (if (lg_cmp v7 ((-1))) = 0 then BL_isBudget_419 K9 v1 v5 r28 r53 Ob53 else (if (lg_cmp r28 ((-1))) = 0 then BL_isBudget_419 K9 v1 v5 r28 r53 Ob53 else BL_isBudget_434 K9 v1 v5 r28 r53 ((v7 * r28) / 100) Ob53)))))
def BL_isBudget_379 (K9 : Int32 → OBk → Prop) (v1 : Int32)  (v5 : Int64) (v7 : Int64) (Ob : OBk) : Prop := BL_isBudget_380 K9 v1 v5 v7 0 Ob
def BL_isBudget_375 (K9 : Int32 → OBk → Prop) (v1 : Int32)  (v5 : Int64) (v7 : Int64) (Ob : OBk) : Prop := BL_isBudget_380 K9 v1 v5 v7 1 Ob
def BL_isBudget_286 (K9 : Int32 → OBk → Prop) (v1 : Int32)  (v2 : Int64) (v4 : Int32) (Ob : OBk) : Prop := cb_budget v1 0 Ob (fun r25 Ob25 => cb_budget v1 1 Ob25 (fun r26 Ob26 => (if v4 = 0 then BL_isBudget_379 K9 v1 r25 r26 Ob26 else (if (lg_cmp v2 r25) = 0 then (if 0 ≤ (lg_cmp r25 0) then (if (lg_cmp r26 0) < 0 then BL_isBudget_379 K9 v1 r25 r26 Ob26 else (if 0 < (lg_cmp (r26 * r26) r25) then BL_isBudget_379 K9 v1 r25 r26 Ob26 else (if 0 < (lg_cmp r26 3000000000) then BL_isBudget_375 K9 v1 r25 r26 Ob26 else (if (lg_cmp ((r26 + 1) * (r26 + 1)) r25) ≤ 0 then BL_isBudget_379 K9 v1 r25 r26 Ob26 else BL_isBudget_375 K9 v1 r25 r26 Ob26)))) else (if (lg_cmp r26 ((-1))) = 0 then BL_isBudget_375 K9 v1 r25 r26 Ob26 else BL_isBudget_379 K9 v1 r25 r26 Ob26)) else BL_isBudget_379 K9 v1 r25 r26 Ob26))))
def wL_isBudget (v1 : Int32) (Ob : OBk) (K9 : Int32 → OBk → Prop) : Prop := LL_isBudget_8 K9 v1 (fun (v2 : Int64) (v4 : Int32) (Ob : OBk) => LL_isBudget_101 K9 v1 (fun (v2 : Int64) (v4 : Int32) (Ob : OBk) => BL_isBudget_286 K9 v1 v2 v4 Ob) 1000 v2 v4 0 Ob) 1000 0 1 0 Ob
abbrev rmL_isBudget : Room := { frames := 6, cells := 0, slots := 0, locals := 143 }
set_option maxHeartbeats 40000000 in
set_option maxRecDepth 100000 in
theorem met_L_isBudget (l : Launch) (hst : l.stackTraces = false) (D : va_G) (k : Nat → ClassId) {a0 : Nat} {Ob : OBk} {wb : va_W} (hBk : isBk k a0 Ob wb) {v1 : Int32} {K9 : Int32 → OBk → Prop} (h : wL_isBudget v1 Ob K9) (sz : Nat) : Met l yL_isBudget wsL_isBudget rmL_isBudget (va_Pc [.ref a0, .int v1] (PreZ D k wb sz)) (va_Qi (pB k a0 K9) (fun u t => PostW D k (va_A wb sz) u.2 t) (va_A wb sz)) 0 0 (va_A wb sz) := by
  refine Met.ofW (cc := cL_isBudget) (maxL := 17) (ret := (some .boolean)) (by decide) rfl ?_
  intro p e s m args below meth c s₁ B hml hv
  obtain ⟨hav, ⟨⟨hsz, hP, hK, hD0⟩, hXP⟩, hNW⟩ := hv
  have hx := B.exec
  have hb := B.bytes
  have hr := B.returns
  have hts := atoms_spec (ws := wsL_isBudget) B.pre
  have hown : s.vm.findClass RL = some m.cls := findClass_of_methodNamed B.named
  have hlocks := B.notSynchronized
  subst hsz
  have hD := hD0.self (sz := s.heap.size)
  clear hD0
  obtain ⟨A, hAe⟩ : ∃ A, va_A wb s.heap.size = A := ⟨_, rfl⟩
  rw [hAe] at hD hXP ⊢
  have hA : ∀ q : Nat, s.heap.size ≤ q → A q := fun q h => by rw [← hAe]; exact Or.inr h
  have hS : va_S A s.heap s.heap [] := va_S.rf
  have hl := lv_entry ([.ref a0, .int v1]) (n := 17) (Nat.le_of_ble_eq_true rfl)
  rw [show entryFrame m args 17 = entryFrame m ([.ref a0, .int v1] : List Value).toArray 17 from by rw [hav], lg_entry_eq]
  generalize (lg_sl ([.ref a0, .int v1]) ++ List.replicate (17 - (lg_sl ([.ref a0, .int v1])).length) Slot.unset).toArray = ls at hl ⊢
  replace hl : lv_has ls 17 [(0, .ref a0), (1, .int v1)] := hl
  have kc83 := hts (.constantLong RL 83 (-1)) (by decide +kernel)
  have kc113 := hts (.constantLong RL 113 (2)) (by decide +kernel)
  have kc115 := hts (.constantLong RL 115 (3000000000)) (by decide +kernel)
  have kc117 := hts (.constantLong RL 117 (100)) (by decide +kernel)
  have kc119 := hts (.constantLong RL 119 (1000)) (by decide +kernel)
  refine w_q (fun Q hQ => ?_)
  unfold wL_isBudget at h
  show W p l e rmL_isBudget s m args below meth c s.heap [] 0 0 Q (F0 m 0 ls [])
  have BH_73 : ∀ (K : Int64 → Int32 → Int32 → OBk → Prop) (hKK : ∀ (v2 : Int64) (v4 : Int32) (v5 : Int32) (Ob : OBk), K v2 v4 v5 Ob → ∀ (H : Heap) (locs : List Loc) (ls : Array Slot) (wb : va_W), isBk k a0 Ob wb → va_P D vwCl wb H → va_D A wb → va_S A s.heap H locs → lv_has ls 17 [(0, .ref a0), (1, .int v1), (2, .long v2), (4, .int v4), (5, .int v5)] → W p l e rmL_isBudget s m args below meth c H locs 0 0 Q (F0 m 8 ls [])) (E98 : Int64 → Int32 → OBk → Prop) (hE98 : ∀ (v2 : Int64) (v4 : Int32) (Ob : OBk), E98 v2 v4 Ob → ∀ (H : Heap) (locs : List Loc) (ls : Array Slot) (wb : va_W), isBk k a0 Ob wb → va_P D vwCl wb H → va_D A wb → va_S A s.heap H locs → lv_has ls 17 [(0, .ref a0), (1, .int v1), (2, .long v2), (4, .int v4)] → W p l e rmL_isBudget s m args below meth c H locs 0 0 Q (F0 m 98 ls [])) (v2 : Int64) (v5 : Int32) (v6 : Int64) (s0 : Int32) (Ob : OBk), BL_isBudget_73 K9 v1 K E98 v2 v5 v6 s0 Ob → ∀ (H : Heap) (locs : List Loc) (ls : Array Slot) (wb : va_W), isBk k a0 Ob wb → va_P D vwCl wb H → va_D A wb → va_S A s.heap H locs → lv_has ls 17 [(0, .ref a0), (1, .int v1), (2, .long v2), (5, .int v5), (6, .long v6)] → W p l e rmL_isBudget s m args below meth c H locs 0 0 Q (F0 m 73 ls [.int s0]) := by
    intro K hKK E98 hE98 v2 v5 v6 s0 Ob h H locs ls wb hBk hP hD hS hl
    unfold BL_isBudget_73 at h
    refine lv_istore (lv' := [(4, .int s0), (0, .ref a0), (1, .int v1), (2, .long v2), (5, .int v5), (6, .long v6)]) hx hb dL_isBudget_73 hl (by decide) rfl (fun ls hl => ?_)
    refine lv_lload_n hx hb dL_isBudget_75 rfl (lv_at hl 3 rfl) ?_
    refine lv_lload hx hb dL_isBudget_76 (lv_at hl 5 rfl) ?_
    refine lv_lload hx hb dL_isBudget_78 (lv_at hl 5 rfl) ?_
    refine lv_lmul hx hb dL_isBudget_80 ?_
    refine lv_aload_n hx hb dL_isBudget_81 rfl (lv_at hl 1 rfl) ?_
    refine lv_iload hx hb dL_isBudget_82 (lv_at hl 4 rfl) ?_
    refine lv_iconst (v := 1) hx hb dL_isBudget_84 (by decide) ?_
    have hPc := hP
    have hDc := hD
    have hFc := vs_free hDc hS hA
    obtain ⟨fs9, hb9⟩ := isBk_head hBk
    have hM9 := bk_input l D k hBk h
    refine xc_iB (va_runV (mc := 0) (ms := 0) (As := [.int v5, .int 1]) (rest := [.long (v6 * v6), .long v2]) ⟨hx, hb, hml, hown, hts⟩ (hM9 H.size) (cwV 2 hts gL_isBudget_X6_input rfl rfl rfl (by decide +kernel) ⟨Nat.le_of_ble_eq_true rfl, Nat.le_of_ble_eq_true rfl⟩) ⟨pn_blind, va_recv hK hPc (ci := 6) (q0 := 0) rfl hb9, pn_start hPc hK hDc hNW⟩ rfl rfl hl.1 rfl (lv_room (Nat.le_of_ble_eq_true rfl)) dL_isBudget_85 ⟨Nat.le_of_ble_eq_true rfl, Nat.le_of_ble_eq_true rfl⟩) hS hFc (fun r6 Ob6 wb6 H1 locs h hBk9 hP1 hD1 hk1 hS => ?_)
    obtain ⟨hP, hD⟩ := vj_all hFc hP1 hD1
    clear hP1 hD1 hk1 hFc hPc hDc
    replace hBk := hBk9
    clear hBk9
    generalize H1 = H at hP hS ⊢
    replace hP : va_P D vwCl wb6 H := hP
    replace hD : va_D A wb6 := hD
    obtain ⟨wb, hwb⟩ : ∃ z, z = wb6 := ⟨_, rfl⟩
    subst hwb
    clear hM9
    refine lv_i2l hx hb dL_isBudget_88 rfl ?_
    refine lv_lmul hx hb dL_isBudget_89 ?_
    refine lv_ladd hx hb dL_isBudget_90 ?_
    refine lv_lstore_n (lv' := [(2, .long (v2 + ((v6 * v6) * ((r6 : Int32).toInt64)))), (4, .int s0), (0, .ref a0), (1, .int v1), (5, .int v5), (6, .long v6)]) hx hb dL_isBudget_91 rfl hl (by decide) rfl (fun ls hl => ?_)
    refine lv_iinc (v := v5 + 1) (lv' := [(5, .int (v5 + 1)), (2, .long (v2 + ((v6 * v6) * ((r6 : Int32).toInt64)))), (4, .int s0), (0, .ref a0), (1, .int v1), (6, .long v6)]) hx hb dL_isBudget_92 hl (k := 4) rfl rfl (by decide) rfl (fun ls hl => ?_)
    refine lv_goto (tgt := 8) hx hb dL_isBudget_95 (by decide) ?_
    exact hKK _ _ _ _ h _ _ _ _ hBk hP hD hS (lv_sub hl [3, 4, 1, 2, 0] rfl)
  have BH_72 : ∀ (K : Int64 → Int32 → Int32 → OBk → Prop) (hKK : ∀ (v2 : Int64) (v4 : Int32) (v5 : Int32) (Ob : OBk), K v2 v4 v5 Ob → ∀ (H : Heap) (locs : List Loc) (ls : Array Slot) (wb : va_W), isBk k a0 Ob wb → va_P D vwCl wb H → va_D A wb → va_S A s.heap H locs → lv_has ls 17 [(0, .ref a0), (1, .int v1), (2, .long v2), (4, .int v4), (5, .int v5)] → W p l e rmL_isBudget s m args below meth c H locs 0 0 Q (F0 m 8 ls [])) (E98 : Int64 → Int32 → OBk → Prop) (hE98 : ∀ (v2 : Int64) (v4 : Int32) (Ob : OBk), E98 v2 v4 Ob → ∀ (H : Heap) (locs : List Loc) (ls : Array Slot) (wb : va_W), isBk k a0 Ob wb → va_P D vwCl wb H → va_D A wb → va_S A s.heap H locs → lv_has ls 17 [(0, .ref a0), (1, .int v1), (2, .long v2), (4, .int v4)] → W p l e rmL_isBudget s m args below meth c H locs 0 0 Q (F0 m 98 ls [])) (v2 : Int64) (v5 : Int32) (v6 : Int64) (Ob : OBk), BL_isBudget_72 K9 v1 K E98 v2 v5 v6 Ob → ∀ (H : Heap) (locs : List Loc) (ls : Array Slot) (wb : va_W), isBk k a0 Ob wb → va_P D vwCl wb H → va_D A wb → va_S A s.heap H locs → lv_has ls 17 [(0, .ref a0), (1, .int v1), (2, .long v2), (5, .int v5), (6, .long v6)] → W p l e rmL_isBudget s m args below meth c H locs 0 0 Q (F0 m 72 ls []) := by
    intro K hKK E98 hE98 v2 v5 v6 Ob h H locs ls wb hBk hP hD hS hl
    unfold BL_isBudget_72 at h
    refine lv_iconst (v := 0) hx hb dL_isBudget_72 (by decide) ?_
    exact BH_73 _ hKK _ hE98 _ _ _ _ _ h _ _ _ _ hBk hP hD hS (lv_sub hl [0, 1, 2, 3, 4] rfl)
  have LH_8 : ∀ (E98 : Int64 → Int32 → OBk → Prop) (hE98 : ∀ (v2 : Int64) (v4 : Int32) (Ob : OBk), E98 v2 v4 Ob → ∀ (H : Heap) (locs : List Loc) (ls : Array Slot) (wb : va_W), isBk k a0 Ob wb → va_P D vwCl wb H → va_D A wb → va_S A s.heap H locs → lv_has ls 17 [(0, .ref a0), (1, .int v1), (2, .long v2), (4, .int v4)] → W p l e rmL_isBudget s m args below meth c H locs 0 0 Q (F0 m 98 ls [])) (n : Nat) (v2 : Int64) (v4 : Int32) (v5 : Int32) (Ob : OBk), LL_isBudget_8 K9 v1 E98 n v2 v4 v5 Ob → ∀ (H : Heap) (locs : List Loc) (ls : Array Slot) (wb : va_W), isBk k a0 Ob wb → va_P D vwCl wb H → va_D A wb → va_S A s.heap H locs → lv_has ls 17 [(0, .ref a0), (1, .int v1), (2, .long v2), (4, .int v4), (5, .int v5)] → W p l e rmL_isBudget s m args below meth c H locs 0 0 Q (F0 m 8 ls []) := by
    intro E98 hE98 n
    induction n with
    | zero => intro v2 v4 v5 Ob h; exact h.elim
    | succ n ih =>
    intro v2 v4 v5 Ob h H locs ls wb hBk hP hD hS hl
    rw [LL_isBudget_8] at h
    refine lv_iload hx hb dL_isBudget_8 (lv_at hl 4 rfl) ?_
    refine lv_bipush (v := 6) hx hb dL_isBudget_10 (by decide) ?_
    refine lv_icmp_ge (tgt := 98) hx hb dL_isBudget_12 (by decide) (fun c1 => ?_) (fun c1 => ?_)
    · replace h := pf_t c1 h
      exact hE98 _ _ _ h _ _ _ _ hBk hP hD hS (lv_sub hl [0, 1, 2, 3] rfl)
    · replace h := pf_f c1 h
      refine lv_iload hx hb dL_isBudget_15 (lv_at hl 3 rfl) ?_
      refine lv_if_eq (tgt := 98) hx hb dL_isBudget_17 (by decide) (fun c2 => ?_) (fun c2 => ?_)
      · replace h := pf_t c2 h
        exact hE98 _ _ _ h _ _ _ _ hBk hP hD hS (lv_sub hl [0, 1, 2, 3] rfl)
      · replace h := pf_f c2 h
        refine lv_aload_n hx hb dL_isBudget_20 rfl (lv_at hl 0 rfl) ?_
        refine lv_iload_n hx hb dL_isBudget_21 rfl (lv_at hl 1 rfl) ?_
        refine lv_iload hx hb dL_isBudget_22 (lv_at hl 4 rfl) ?_
        have hPc := hP
        have hDc := hD
        have hFc := vs_free hDc hS hA
        obtain ⟨fs9, hb9⟩ := isBk_head hBk
        have hM9 := bk_sensitivity l D k hBk h
        refine xc_lB (va_runV (mc := 0) (ms := 0) (As := [.int v1, .int v5]) (rest := []) ⟨hx, hb, hml, hown, hts⟩ (hM9 H.size) (cwV 2 hts gL_isBudget_X6_sensitivity rfl rfl rfl (by decide +kernel) ⟨Nat.le_of_ble_eq_true rfl, Nat.le_of_ble_eq_true rfl⟩) ⟨pn_blind, va_recv hK hPc (ci := 6) (q0 := 0) rfl hb9, pn_start hPc hK hDc hNW⟩ rfl rfl hl.1 rfl (lv_room (Nat.le_of_ble_eq_true rfl)) dL_isBudget_24 ⟨Nat.le_of_ble_eq_true rfl, Nat.le_of_ble_eq_true rfl⟩) hS hFc (fun r3 Ob3 wb3 H1 locs h hBk9 hP1 hD1 hk1 hS => ?_)
        obtain ⟨hP, hD⟩ := vj_all hFc hP1 hD1
        clear hP1 hD1 hk1 hFc hPc hDc
        replace hBk := hBk9
        clear hBk9
        generalize H1 = H at hP hS ⊢
        replace hP : va_P D vwCl wb3 H := hP
        replace hD : va_D A wb3 := hD
        obtain ⟨wb, hwb⟩ : ∃ z, z = wb3 := ⟨_, rfl⟩
        subst hwb
        clear hM9
        refine lv_lstore (lv' := [(6, .long r3), (0, .ref a0), (1, .int v1), (2, .long v2), (4, .int v4), (5, .int v5)]) hx hb dL_isBudget_27 hl (by decide) rfl (fun ls hl => ?_)
        refine lv_lload hx hb dL_isBudget_29 (lv_at hl 0 rfl) ?_
        refine lv_aload_n hx hb dL_isBudget_31 rfl (lv_at hl 1 rfl) ?_
        refine lv_iload_n hx hb dL_isBudget_32 rfl (lv_at hl 2 rfl) ?_
        refine lv_iload hx hb dL_isBudget_33 (lv_at hl 5 rfl) ?_
        have hPc := hP
        have hDc := hD
        have hFc := vs_free hDc hS hA
        obtain ⟨fs9, hb9⟩ := isBk_head hBk
        have hM9 := bk_sensitivityAnew l D k hBk h
        refine xc_lB (va_runV (mc := 0) (ms := 0) (As := [.int v1, .int v5]) (rest := [.long r3]) ⟨hx, hb, hml, hown, hts⟩ (hM9 H.size) (cwV 2 hts gL_isBudget_X6_sensitivityAnew rfl rfl rfl (by decide +kernel) ⟨Nat.le_of_ble_eq_true rfl, Nat.le_of_ble_eq_true rfl⟩) ⟨pn_blind, va_recv hK hPc (ci := 6) (q0 := 0) rfl hb9, pn_start hPc hK hDc hNW⟩ rfl rfl hl.1 rfl (lv_room (Nat.le_of_ble_eq_true rfl)) dL_isBudget_35 ⟨Nat.le_of_ble_eq_true rfl, Nat.le_of_ble_eq_true rfl⟩) hS hFc (fun r4 Ob4 wb4 H1 locs h hBk9 hP1 hD1 hk1 hS => ?_)
        obtain ⟨hP, hD⟩ := vj_all hFc hP1 hD1
        clear hP1 hD1 hk1 hFc hPc hDc
        replace hBk := hBk9
        clear hBk9
        generalize H1 = H at hP hS ⊢
        replace hP : va_P D vwCl wb4 H := hP
        replace hD : va_D A wb4 := hD
        obtain ⟨wb, hwb⟩ : ∃ z, z = wb4 := ⟨_, rfl⟩
        subst hwb
        clear hM9
        refine W.lcmp hx hb dL_isBudget_38 ?_
        refine lv_if_ne (tgt := 72) hx hb dL_isBudget_39 (by decide) (fun c5 => ?_) (fun c5 => ?_)
        · replace h := pf_f c5 h
          exact BH_72 _ ih _ hE98 _ _ _ _ h _ _ _ _ hBk hP hD hS (lv_sub hl [1, 2, 3, 5, 0] rfl)
        · replace h := pf_t c5 h
          refine lv_aload_n hx hb dL_isBudget_42 rfl (lv_at hl 1 rfl) ?_
          refine lv_iload_n hx hb dL_isBudget_43 rfl (lv_at hl 2 rfl) ?_
          refine lv_iload hx hb dL_isBudget_44 (lv_at hl 5 rfl) ?_
          refine lv_iconst (v := 0) hx hb dL_isBudget_46 (by decide) ?_
          have hPc := hP
          have hDc := hD
          have hFc := vs_free hDc hS hA
          obtain ⟨fs9, hb9⟩ := isBk_head hBk
          have hM9 := bk_contribution l D k hBk h
          refine xc_lB (va_runV (mc := 0) (ms := 0) (As := [.int v1, .int v5, .int 0]) (rest := []) ⟨hx, hb, hml, hown, hts⟩ (hM9 H.size) (cwV 3 hts gL_isBudget_X6_contribution rfl rfl rfl (by decide +kernel) ⟨Nat.le_of_ble_eq_true rfl, Nat.le_of_ble_eq_true rfl⟩) ⟨pn_blind, va_recv hK hPc (ci := 6) (q0 := 0) rfl hb9, pn_start hPc hK hDc hNW⟩ rfl rfl hl.1 rfl (lv_room (Nat.le_of_ble_eq_true rfl)) dL_isBudget_47 ⟨Nat.le_of_ble_eq_true rfl, Nat.le_of_ble_eq_true rfl⟩) hS hFc (fun r7 Ob7 wb7 H1 locs h hBk9 hP1 hD1 hk1 hS => ?_)
          obtain ⟨hP, hD⟩ := vj_all hFc hP1 hD1
          clear hP1 hD1 hk1 hFc hPc hDc
          replace hBk := hBk9
          clear hBk9
          generalize H1 = H at hP hS ⊢
          replace hP : va_P D vwCl wb7 H := hP
          replace hD : va_D A wb7 := hD
          obtain ⟨wb, hwb⟩ : ∃ z, z = wb7 := ⟨_, rfl⟩
          subst hwb
          clear hM9
          refine lv_lload hx hb dL_isBudget_50 (lv_at hl 0 rfl) ?_
          refine lv_lload hx hb dL_isBudget_52 (lv_at hl 0 rfl) ?_
          refine lv_lmul hx hb dL_isBudget_54 ?_
          refine lv_aload_n hx hb dL_isBudget_55 rfl (lv_at hl 1 rfl) ?_
          refine lv_iload hx hb dL_isBudget_56 (lv_at hl 5 rfl) ?_
          refine lv_iconst (v := 1) hx hb dL_isBudget_58 (by decide) ?_
          have hPc := hP
          have hDc := hD
          have hFc := vs_free hDc hS hA
          obtain ⟨fs9, hb9⟩ := isBk_head hBk
          have hM9 := bk_input l D k hBk h
          refine xc_iB (va_runV (mc := 0) (ms := 0) (As := [.int v5, .int 1]) (rest := [.long (r3 * r3), .long r7]) ⟨hx, hb, hml, hown, hts⟩ (hM9 H.size) (cwV 2 hts gL_isBudget_X6_input rfl rfl rfl (by decide +kernel) ⟨Nat.le_of_ble_eq_true rfl, Nat.le_of_ble_eq_true rfl⟩) ⟨pn_blind, va_recv hK hPc (ci := 6) (q0 := 0) rfl hb9, pn_start hPc hK hDc hNW⟩ rfl rfl hl.1 rfl (lv_room (Nat.le_of_ble_eq_true rfl)) dL_isBudget_59 ⟨Nat.le_of_ble_eq_true rfl, Nat.le_of_ble_eq_true rfl⟩) hS hFc (fun r8 Ob8 wb8 H1 locs h hBk9 hP1 hD1 hk1 hS => ?_)
          obtain ⟨hP, hD⟩ := vj_all hFc hP1 hD1
          clear hP1 hD1 hk1 hFc hPc hDc
          replace hBk := hBk9
          clear hBk9
          generalize H1 = H at hP hS ⊢
          replace hP : va_P D vwCl wb8 H := hP
          replace hD : va_D A wb8 := hD
          obtain ⟨wb, hwb⟩ : ∃ z, z = wb8 := ⟨_, rfl⟩
          subst hwb
          clear hM9
          refine lv_i2l hx hb dL_isBudget_62 rfl ?_
          refine lv_lmul hx hb dL_isBudget_63 ?_
          refine W.lcmp hx hb dL_isBudget_64 ?_
          refine lv_if_ne (tgt := 72) hx hb dL_isBudget_65 (by decide) (fun c9 => ?_) (fun c9 => ?_)
          · replace h := pf_f c9 h
            exact BH_72 _ ih _ hE98 _ _ _ _ h _ _ _ _ hBk hP hD hS (lv_sub hl [1, 2, 3, 5, 0] rfl)
          · replace h := pf_t c9 h
            refine lv_iconst (v := 1) hx hb dL_isBudget_68 (by decide) ?_
            refine lv_goto (tgt := 73) hx hb dL_isBudget_69 (by decide) ?_
            exact BH_73 _ ih _ hE98 _ _ _ _ _ h _ _ _ _ hBk hP hD hS (lv_sub hl [1, 2, 3, 5, 0] rfl)
  have BH_252 : ∀ (K : Int64 → Int32 → Int32 → OBk → Prop) (hKK : ∀ (v2 : Int64) (v4 : Int32) (v5 : Int32) (Ob : OBk), K v2 v4 v5 Ob → ∀ (H : Heap) (locs : List Loc) (ls : Array Slot) (wb : va_W), isBk k a0 Ob wb → va_P D vwCl wb H → va_D A wb → va_S A s.heap H locs → lv_has ls 17 [(0, .ref a0), (1, .int v1), (2, .long v2), (4, .int v4), (5, .int v5)] → W p l e rmL_isBudget s m args below meth c H locs 0 0 Q (F0 m 101 ls [])) (E286 : Int64 → Int32 → OBk → Prop) (hE286 : ∀ (v2 : Int64) (v4 : Int32) (Ob : OBk), E286 v2 v4 Ob → ∀ (H : Heap) (locs : List Loc) (ls : Array Slot) (wb : va_W), isBk k a0 Ob wb → va_P D vwCl wb H → va_D A wb → va_S A s.heap H locs → lv_has ls 17 [(0, .ref a0), (1, .int v1), (2, .long v2), (4, .int v4)] → W p l e rmL_isBudget s m args below meth c H locs 0 0 Q (F0 m 286 ls [])) (v2 : Int64) (v5 : Int32) (v6 : Int32) (v7 : Int32) (v8 : Int32) (s0 : Int32) (Ob : OBk), BL_isBudget_252 K9 v1 K E286 v2 v5 v6 v7 v8 s0 Ob → ∀ (H : Heap) (locs : List Loc) (ls : Array Slot) (wb : va_W), isBk k a0 Ob wb → va_P D vwCl wb H → va_D A wb → va_S A s.heap H locs → lv_has ls 17 [(0, .ref a0), (1, .int v1), (2, .long v2), (5, .int v5), (6, .int v6), (7, .int v7), (8, .int v8)] → W p l e rmL_isBudget s m args below meth c H locs 0 0 Q (F0 m 252 ls [.int s0]) := by
    intro K hKK E286 hE286 v2 v5 v6 v7 v8 s0 Ob h H locs ls wb hBk hP hD hS hl
    unfold BL_isBudget_252 at h
    refine lv_istore (lv' := [(4, .int s0), (0, .ref a0), (1, .int v1), (2, .long v2), (5, .int v5), (6, .int v6), (7, .int v7), (8, .int v8)]) hx hb dL_isBudget_252 hl (by decide) rfl (fun ls hl => ?_)
    refine lv_lload_n hx hb dL_isBudget_254 rfl (lv_at hl 3 rfl) ?_
    refine lv_ldc2 (v := 2) hx hb hown kc113 dL_isBudget_255 ?_
    refine lv_aload_n hx hb dL_isBudget_258 rfl (lv_at hl 1 rfl) ?_
    refine lv_iload_n hx hb dL_isBudget_259 rfl (lv_at hl 2 rfl) ?_
    refine lv_iload hx hb dL_isBudget_260 (lv_at hl 5 rfl) ?_
    have hPc := hP
    have hDc := hD
    have hFc := vs_free hDc hS hA
    obtain ⟨fs9, hb9⟩ := isBk_head hBk
    have hM9 := bk_sensitivity l D k hBk h
    refine xc_lB (va_runV (mc := 0) (ms := 0) (As := [.int v1, .int v6]) (rest := [.long 2, .long v2]) ⟨hx, hb, hml, hown, hts⟩ (hM9 H.size) (cwV 2 hts gL_isBudget_X6_sensitivity rfl rfl rfl (by decide +kernel) ⟨Nat.le_of_ble_eq_true rfl, Nat.le_of_ble_eq_true rfl⟩) ⟨pn_blind, va_recv hK hPc (ci := 6) (q0 := 0) rfl hb9, pn_start hPc hK hDc hNW⟩ rfl rfl hl.1 rfl (lv_room (Nat.le_of_ble_eq_true rfl)) dL_isBudget_262 ⟨Nat.le_of_ble_eq_true rfl, Nat.le_of_ble_eq_true rfl⟩) hS hFc (fun r23 Ob23 wb23 H1 locs h hBk9 hP1 hD1 hk1 hS => ?_)
    obtain ⟨hP, hD⟩ := vj_all hFc hP1 hD1
    clear hP1 hD1 hk1 hFc hPc hDc
    replace hBk := hBk9
    clear hBk9
    generalize H1 = H at hP hS ⊢
    replace hP : va_P D vwCl wb23 H := hP
    replace hD : va_D A wb23 := hD
    obtain ⟨wb, hwb⟩ : ∃ z, z = wb23 := ⟨_, rfl⟩
    subst hwb
    clear hM9
    refine lv_aload_n hx hb dL_isBudget_265 rfl (lv_at hl 1 rfl) ?_
    refine lv_iload_n hx hb dL_isBudget_266 rfl (lv_at hl 2 rfl) ?_
    refine lv_iload hx hb dL_isBudget_267 (lv_at hl 6 rfl) ?_
    have hPc := hP
    have hDc := hD
    have hFc := vs_free hDc hS hA
    obtain ⟨fs9, hb9⟩ := isBk_head hBk
    have hM9 := bk_sensitivity l D k hBk h
    refine xc_lB (va_runV (mc := 0) (ms := 0) (As := [.int v1, .int v7]) (rest := [.long r23, .long 2, .long v2]) ⟨hx, hb, hml, hown, hts⟩ (hM9 H.size) (cwV 2 hts gL_isBudget_X6_sensitivity rfl rfl rfl (by decide +kernel) ⟨Nat.le_of_ble_eq_true rfl, Nat.le_of_ble_eq_true rfl⟩) ⟨pn_blind, va_recv hK hPc (ci := 6) (q0 := 0) rfl hb9, pn_start hPc hK hDc hNW⟩ rfl rfl hl.1 rfl (lv_room (Nat.le_of_ble_eq_true rfl)) dL_isBudget_269 ⟨Nat.le_of_ble_eq_true rfl, Nat.le_of_ble_eq_true rfl⟩) hS hFc (fun r24 Ob24 wb24 H1 locs h hBk9 hP1 hD1 hk1 hS => ?_)
    obtain ⟨hP, hD⟩ := vj_all hFc hP1 hD1
    clear hP1 hD1 hk1 hFc hPc hDc
    replace hBk := hBk9
    clear hBk9
    generalize H1 = H at hP hS ⊢
    replace hP : va_P D vwCl wb24 H := hP
    replace hD : va_D A wb24 := hD
    obtain ⟨wb, hwb⟩ : ∃ z, z = wb24 := ⟨_, rfl⟩
    subst hwb
    clear hM9
    refine lv_lmul hx hb dL_isBudget_272 ?_
    refine lv_iload hx hb dL_isBudget_273 (lv_at hl 7 rfl) ?_
    refine lv_i2l hx hb dL_isBudget_275 rfl ?_
    refine lv_lmul hx hb dL_isBudget_276 ?_
    refine lv_lmul hx hb dL_isBudget_277 ?_
    refine lv_ladd hx hb dL_isBudget_278 ?_
    refine lv_lstore_n (lv' := [(2, .long (v2 + (2 * ((r23 * r24) * ((v8 : Int32).toInt64))))), (4, .int s0), (0, .ref a0), (1, .int v1), (5, .int v5), (6, .int v6), (7, .int v7), (8, .int v8)]) hx hb dL_isBudget_279 rfl hl (by decide) rfl (fun ls hl => ?_)
    refine lv_iinc (v := v5 + 1) (lv' := [(5, .int (v5 + 1)), (2, .long (v2 + (2 * ((r23 * r24) * ((v8 : Int32).toInt64))))), (4, .int s0), (0, .ref a0), (1, .int v1), (6, .int v6), (7, .int v7), (8, .int v8)]) hx hb dL_isBudget_280 hl (k := 4) rfl rfl (by decide) rfl (fun ls hl => ?_)
    refine lv_goto (tgt := 101) hx hb dL_isBudget_283 (by decide) ?_
    exact hKK _ _ _ _ h _ _ _ _ hBk hP hD hS (lv_sub hl [3, 4, 1, 2, 0] rfl)
  have BH_217 : ∀ (K : Int64 → Int32 → Int32 → OBk → Prop) (hKK : ∀ (v2 : Int64) (v4 : Int32) (v5 : Int32) (Ob : OBk), K v2 v4 v5 Ob → ∀ (H : Heap) (locs : List Loc) (ls : Array Slot) (wb : va_W), isBk k a0 Ob wb → va_P D vwCl wb H → va_D A wb → va_S A s.heap H locs → lv_has ls 17 [(0, .ref a0), (1, .int v1), (2, .long v2), (4, .int v4), (5, .int v5)] → W p l e rmL_isBudget s m args below meth c H locs 0 0 Q (F0 m 101 ls [])) (E286 : Int64 → Int32 → OBk → Prop) (hE286 : ∀ (v2 : Int64) (v4 : Int32) (Ob : OBk), E286 v2 v4 Ob → ∀ (H : Heap) (locs : List Loc) (ls : Array Slot) (wb : va_W), isBk k a0 Ob wb → va_P D vwCl wb H → va_D A wb → va_S A s.heap H locs → lv_has ls 17 [(0, .ref a0), (1, .int v1), (2, .long v2), (4, .int v4)] → W p l e rmL_isBudget s m args below meth c H locs 0 0 Q (F0 m 286 ls [])) (v2 : Int64) (v5 : Int32) (v6 : Int32) (s0 : Int32) (Ob : OBk), BL_isBudget_217 K9 v1 K E286 v2 v5 v6 s0 Ob → ∀ (H : Heap) (locs : List Loc) (ls : Array Slot) (wb : va_W), isBk k a0 Ob wb → va_P D vwCl wb H → va_D A wb → va_S A s.heap H locs → lv_has ls 17 [(0, .ref a0), (1, .int v1), (2, .long v2), (5, .int v5), (6, .int v6)] → W p l e rmL_isBudget s m args below meth c H locs 0 0 Q (F0 m 217 ls [.int s0]) := by
    intro K hKK E286 hE286 v2 v5 v6 s0 Ob h H locs ls wb hBk hP hD hS hl
    unfold BL_isBudget_217 at h
    refine lv_istore (lv' := [(7, .int s0), (0, .ref a0), (1, .int v1), (2, .long v2), (5, .int v5), (6, .int v6)]) hx hb dL_isBudget_217 hl (by decide) rfl (fun ls hl => ?_)
    refine lv_aload_n hx hb dL_isBudget_219 rfl (lv_at hl 1 rfl) ?_
    refine lv_iload hx hb dL_isBudget_220 (lv_at hl 5 rfl) ?_
    refine lv_iload hx hb dL_isBudget_222 (lv_at hl 0 rfl) ?_
    refine lv_iconst (v := 0) hx hb dL_isBudget_224 (by decide) ?_
    have hPc := hP
    have hDc := hD
    have hFc := vs_free hDc hS hA
    obtain ⟨fs9, hb9⟩ := isBk_head hBk
    have hM9 := bk_together l D k hBk h
    refine xc_iB (va_runV (mc := 0) (ms := 0) (As := [.int v6, .int s0, .int 0]) (rest := []) ⟨hx, hb, hml, hown, hts⟩ (hM9 H.size) (cwV 3 hts gL_isBudget_X6_together rfl rfl rfl (by decide +kernel) ⟨Nat.le_of_ble_eq_true rfl, Nat.le_of_ble_eq_true rfl⟩) ⟨pn_blind, va_recv hK hPc (ci := 6) (q0 := 0) rfl hb9, pn_start hPc hK hDc hNW⟩ rfl rfl hl.1 rfl (lv_room (Nat.le_of_ble_eq_true rfl)) dL_isBudget_225 ⟨Nat.le_of_ble_eq_true rfl, Nat.le_of_ble_eq_true rfl⟩) hS hFc (fun r20 Ob20 wb20 H1 locs h hBk9 hP1 hD1 hk1 hS => ?_)
    obtain ⟨hP, hD⟩ := vj_all hFc hP1 hD1
    clear hP1 hD1 hk1 hFc hPc hDc
    replace hBk := hBk9
    clear hBk9
    generalize H1 = H at hP hS ⊢
    replace hP : va_P D vwCl wb20 H := hP
    replace hD : va_D A wb20 := hD
    obtain ⟨wb, hwb⟩ : ∃ z, z = wb20 := ⟨_, rfl⟩
    subst hwb
    clear hM9
    refine lv_istore (lv' := [(8, .int r20), (7, .int s0), (0, .ref a0), (1, .int v1), (2, .long v2), (5, .int v5), (6, .int v6)]) hx hb dL_isBudget_228 hl (by decide) rfl (fun ls hl => ?_)
    refine lv_aload_n hx hb dL_isBudget_230 rfl (lv_at hl 2 rfl) ?_
    refine lv_iload hx hb dL_isBudget_231 (lv_at hl 6 rfl) ?_
    refine lv_iload hx hb dL_isBudget_233 (lv_at hl 1 rfl) ?_
    refine lv_iload hx hb dL_isBudget_235 (lv_at hl 0 rfl) ?_
    have hPc := hP
    have hDc := hD
    have hFc := vs_free hDc hS hA
    obtain ⟨fs9, hb9⟩ := isBk_head hBk
    have hM9 := bk_together l D k hBk h
    refine xc_iB (va_runV (mc := 0) (ms := 0) (As := [.int v6, .int s0, .int r20]) (rest := []) ⟨hx, hb, hml, hown, hts⟩ (hM9 H.size) (cwV 3 hts gL_isBudget_X6_together rfl rfl rfl (by decide +kernel) ⟨Nat.le_of_ble_eq_true rfl, Nat.le_of_ble_eq_true rfl⟩) ⟨pn_blind, va_recv hK hPc (ci := 6) (q0 := 0) rfl hb9, pn_start hPc hK hDc hNW⟩ rfl rfl hl.1 rfl (lv_room (Nat.le_of_ble_eq_true rfl)) dL_isBudget_237 ⟨Nat.le_of_ble_eq_true rfl, Nat.le_of_ble_eq_true rfl⟩) hS hFc (fun r21 Ob21 wb21 H1 locs h hBk9 hP1 hD1 hk1 hS => ?_)
    obtain ⟨hP, hD⟩ := vj_all hFc hP1 hD1
    clear hP1 hD1 hk1 hFc hPc hDc
    replace hBk := hBk9
    clear hBk9
    generalize H1 = H at hP hS ⊢
    replace hP : va_P D vwCl wb21 H := hP
    replace hD : va_D A wb21 := hD
    obtain ⟨wb, hwb⟩ : ∃ z, z = wb21 := ⟨_, rfl⟩
    subst hwb
    clear hM9
    refine lv_istore (lv' := [(9, .int r21), (8, .int r20), (7, .int s0), (0, .ref a0), (1, .int v1), (2, .long v2), (5, .int v5), (6, .int v6)]) hx hb dL_isBudget_240 hl (by decide) rfl (fun ls hl => ?_)
    refine lv_iload hx hb dL_isBudget_242 (lv_at hl 0 rfl) ?_
    refine lv_if_ne (tgt := 251) hx hb dL_isBudget_244 (by decide) (fun c22 => ?_) (fun c22 => ?_)
    · replace h := pf_f c22 h
      refine lv_iconst (v := 0) hx hb dL_isBudget_251 (by decide) ?_
      exact BH_252 _ hKK _ hE286 _ _ _ _ _ _ _ h _ _ _ _ hBk hP hD hS (lv_sub hl [3, 4, 5, 6, 7, 2, 1] rfl)
    · replace h := pf_t c22 h
      refine lv_iconst (v := 1) hx hb dL_isBudget_247 (by decide) ?_
      refine lv_goto (tgt := 252) hx hb dL_isBudget_248 (by decide) ?_
      exact BH_252 _ hKK _ hE286 _ _ _ _ _ _ _ h _ _ _ _ hBk hP hD hS (lv_sub hl [3, 4, 5, 6, 7, 2, 1] rfl)
  have BH_157 : ∀ (K : Int64 → Int32 → Int32 → OBk → Prop) (hKK : ∀ (v2 : Int64) (v4 : Int32) (v5 : Int32) (Ob : OBk), K v2 v4 v5 Ob → ∀ (H : Heap) (locs : List Loc) (ls : Array Slot) (wb : va_W), isBk k a0 Ob wb → va_P D vwCl wb H → va_D A wb → va_S A s.heap H locs → lv_has ls 17 [(0, .ref a0), (1, .int v1), (2, .long v2), (4, .int v4), (5, .int v5)] → W p l e rmL_isBudget s m args below meth c H locs 0 0 Q (F0 m 101 ls [])) (E286 : Int64 → Int32 → OBk → Prop) (hE286 : ∀ (v2 : Int64) (v4 : Int32) (Ob : OBk), E286 v2 v4 Ob → ∀ (H : Heap) (locs : List Loc) (ls : Array Slot) (wb : va_W), isBk k a0 Ob wb → va_P D vwCl wb H → va_D A wb → va_S A s.heap H locs → lv_has ls 17 [(0, .ref a0), (1, .int v1), (2, .long v2), (4, .int v4)] → W p l e rmL_isBudget s m args below meth c H locs 0 0 Q (F0 m 286 ls [])) (v2 : Int64) (v5 : Int32) (s0 : Int32) (Ob : OBk), BL_isBudget_157 K9 v1 K E286 v2 v5 s0 Ob → ∀ (H : Heap) (locs : List Loc) (ls : Array Slot) (wb : va_W), isBk k a0 Ob wb → va_P D vwCl wb H → va_D A wb → va_S A s.heap H locs → lv_has ls 17 [(0, .ref a0), (1, .int v1), (2, .long v2), (5, .int v5)] → W p l e rmL_isBudget s m args below meth c H locs 0 0 Q (F0 m 157 ls [.int s0]) := by
    intro K hKK E286 hE286 v2 v5 s0 Ob h H locs ls wb hBk hP hD hS hl
    unfold BL_isBudget_157 at h
    refine lv_istore (lv' := [(6, .int s0), (0, .ref a0), (1, .int v1), (2, .long v2), (5, .int v5)]) hx hb dL_isBudget_157 hl (by decide) rfl (fun ls hl => ?_)
    refine lv_iload hx hb dL_isBudget_159 (lv_at hl 4 rfl) ?_
    refine lv_iconst (v := 5) hx hb dL_isBudget_161 (by decide) ?_
    refine lv_icmp_ge (tgt := 172) hx hb dL_isBudget_162 (by decide) (fun c16 => ?_) (fun c16 => ?_)
    · replace h := pf_t c16 h
      refine lv_iload hx hb dL_isBudget_172 (lv_at hl 4 rfl) ?_
      refine lv_bipush (v := 9) hx hb dL_isBudget_174 (by decide) ?_
      refine lv_icmp_ge (tgt := 186) hx hb dL_isBudget_176 (by decide) (fun c17 => ?_) (fun c17 => ?_)
      · replace h := pf_t c17 h
        refine lv_iload hx hb dL_isBudget_186 (lv_at hl 4 rfl) ?_
        refine lv_bipush (v := 12) hx hb dL_isBudget_188 (by decide) ?_
        refine lv_icmp_ge (tgt := 201) hx hb dL_isBudget_190 (by decide) (fun c18 => ?_) (fun c18 => ?_)
        · replace h := pf_t c18 h
          refine lv_iload hx hb dL_isBudget_201 (lv_at hl 4 rfl) ?_
          refine lv_bipush (v := 14) hx hb dL_isBudget_203 (by decide) ?_
          refine lv_icmp_ge (tgt := 216) hx hb dL_isBudget_205 (by decide) (fun c19 => ?_) (fun c19 => ?_)
          · replace h := pf_t c19 h
            refine lv_iconst (v := 5) hx hb dL_isBudget_216 (by decide) ?_
            exact BH_217 _ hKK _ hE286 _ _ _ _ _ h _ _ _ _ hBk hP hD hS (lv_sub hl [1, 2, 3, 4, 0] rfl)
          · replace h := pf_f c19 h
            refine lv_iload hx hb dL_isBudget_208 (lv_at hl 4 rfl) ?_
            refine lv_bipush (v := 8) hx hb dL_isBudget_210 (by decide) ?_
            refine lv_isub hx hb dL_isBudget_212 ?_
            refine lv_goto (tgt := 217) hx hb dL_isBudget_213 (by decide) ?_
            exact BH_217 _ hKK _ hE286 _ _ _ _ _ h _ _ _ _ hBk hP hD hS (lv_sub hl [1, 2, 3, 4, 0] rfl)
        · replace h := pf_f c18 h
          refine lv_iload hx hb dL_isBudget_193 (lv_at hl 4 rfl) ?_
          refine lv_bipush (v := 6) hx hb dL_isBudget_195 (by decide) ?_
          refine lv_isub hx hb dL_isBudget_197 ?_
          refine lv_goto (tgt := 217) hx hb dL_isBudget_198 (by decide) ?_
          exact BH_217 _ hKK _ hE286 _ _ _ _ _ h _ _ _ _ hBk hP hD hS (lv_sub hl [1, 2, 3, 4, 0] rfl)
      · replace h := pf_f c17 h
        refine lv_iload hx hb dL_isBudget_179 (lv_at hl 4 rfl) ?_
        refine lv_iconst (v := 3) hx hb dL_isBudget_181 (by decide) ?_
        refine lv_isub hx hb dL_isBudget_182 ?_
        refine lv_goto (tgt := 217) hx hb dL_isBudget_183 (by decide) ?_
        exact BH_217 _ hKK _ hE286 _ _ _ _ _ h _ _ _ _ hBk hP hD hS (lv_sub hl [1, 2, 3, 4, 0] rfl)
    · replace h := pf_f c16 h
      refine lv_iload hx hb dL_isBudget_165 (lv_at hl 4 rfl) ?_
      refine lv_iconst (v := 1) hx hb dL_isBudget_167 (by decide) ?_
      refine lv_iadd hx hb dL_isBudget_168 ?_
      refine lv_goto (tgt := 217) hx hb dL_isBudget_169 (by decide) ?_
      exact BH_217 _ hKK _ hE286 _ _ _ _ _ h _ _ _ _ hBk hP hD hS (lv_sub hl [1, 2, 3, 4, 0] rfl)
  have LH_101 : ∀ (E286 : Int64 → Int32 → OBk → Prop) (hE286 : ∀ (v2 : Int64) (v4 : Int32) (Ob : OBk), E286 v2 v4 Ob → ∀ (H : Heap) (locs : List Loc) (ls : Array Slot) (wb : va_W), isBk k a0 Ob wb → va_P D vwCl wb H → va_D A wb → va_S A s.heap H locs → lv_has ls 17 [(0, .ref a0), (1, .int v1), (2, .long v2), (4, .int v4)] → W p l e rmL_isBudget s m args below meth c H locs 0 0 Q (F0 m 286 ls [])) (n : Nat) (v2 : Int64) (v4 : Int32) (v5 : Int32) (Ob : OBk), LL_isBudget_101 K9 v1 E286 n v2 v4 v5 Ob → ∀ (H : Heap) (locs : List Loc) (ls : Array Slot) (wb : va_W), isBk k a0 Ob wb → va_P D vwCl wb H → va_D A wb → va_S A s.heap H locs → lv_has ls 17 [(0, .ref a0), (1, .int v1), (2, .long v2), (4, .int v4), (5, .int v5)] → W p l e rmL_isBudget s m args below meth c H locs 0 0 Q (F0 m 101 ls []) := by
    intro E286 hE286 n
    induction n with
    | zero => intro v2 v4 v5 Ob h; exact h.elim
    | succ n ih =>
    intro v2 v4 v5 Ob h H locs ls wb hBk hP hD hS hl
    rw [LL_isBudget_101] at h
    refine lv_iload hx hb dL_isBudget_101 (lv_at hl 4 rfl) ?_
    refine lv_bipush (v := 15) hx hb dL_isBudget_103 (by decide) ?_
    refine lv_icmp_ge (tgt := 286) hx hb dL_isBudget_105 (by decide) (fun c10 => ?_) (fun c10 => ?_)
    · replace h := pf_t c10 h
      exact hE286 _ _ _ h _ _ _ _ hBk hP hD hS (lv_sub hl [0, 1, 2, 3] rfl)
    · replace h := pf_f c10 h
      refine lv_iload hx hb dL_isBudget_108 (lv_at hl 3 rfl) ?_
      refine lv_if_eq (tgt := 286) hx hb dL_isBudget_110 (by decide) (fun c11 => ?_) (fun c11 => ?_)
      · replace h := pf_t c11 h
        exact hE286 _ _ _ h _ _ _ _ hBk hP hD hS (lv_sub hl [0, 1, 2, 3] rfl)
      · replace h := pf_f c11 h
        refine lv_iload hx hb dL_isBudget_113 (lv_at hl 4 rfl) ?_
        refine lv_iconst (v := 5) hx hb dL_isBudget_115 (by decide) ?_
        refine lv_icmp_ge (tgt := 123) hx hb dL_isBudget_116 (by decide) (fun c12 => ?_) (fun c12 => ?_)
        · replace h := pf_t c12 h
          refine lv_iload hx hb dL_isBudget_123 (lv_at hl 4 rfl) ?_
          refine lv_bipush (v := 9) hx hb dL_isBudget_125 (by decide) ?_
          refine lv_icmp_ge (tgt := 134) hx hb dL_isBudget_127 (by decide) (fun c13 => ?_) (fun c13 => ?_)
          · replace h := pf_t c13 h
            refine lv_iload hx hb dL_isBudget_134 (lv_at hl 4 rfl) ?_
            refine lv_bipush (v := 12) hx hb dL_isBudget_136 (by decide) ?_
            refine lv_icmp_ge (tgt := 145) hx hb dL_isBudget_138 (by decide) (fun c14 => ?_) (fun c14 => ?_)
            · replace h := pf_t c14 h
              refine lv_iload hx hb dL_isBudget_145 (lv_at hl 4 rfl) ?_
              refine lv_bipush (v := 14) hx hb dL_isBudget_147 (by decide) ?_
              refine lv_icmp_ge (tgt := 156) hx hb dL_isBudget_149 (by decide) (fun c15 => ?_) (fun c15 => ?_)
              · replace h := pf_t c15 h
                refine lv_iconst (v := 4) hx hb dL_isBudget_156 (by decide) ?_
                exact BH_157 _ ih _ hE286 _ _ _ _ h _ _ _ _ hBk hP hD hS (lv_sub hl [0, 1, 2, 4] rfl)
              · replace h := pf_f c15 h
                refine lv_iconst (v := 3) hx hb dL_isBudget_152 (by decide) ?_
                refine lv_goto (tgt := 157) hx hb dL_isBudget_153 (by decide) ?_
                exact BH_157 _ ih _ hE286 _ _ _ _ h _ _ _ _ hBk hP hD hS (lv_sub hl [0, 1, 2, 4] rfl)
            · replace h := pf_f c14 h
              refine lv_iconst (v := 2) hx hb dL_isBudget_141 (by decide) ?_
              refine lv_goto (tgt := 157) hx hb dL_isBudget_142 (by decide) ?_
              exact BH_157 _ ih _ hE286 _ _ _ _ h _ _ _ _ hBk hP hD hS (lv_sub hl [0, 1, 2, 4] rfl)
          · replace h := pf_f c13 h
            refine lv_iconst (v := 1) hx hb dL_isBudget_130 (by decide) ?_
            refine lv_goto (tgt := 157) hx hb dL_isBudget_131 (by decide) ?_
            exact BH_157 _ ih _ hE286 _ _ _ _ h _ _ _ _ hBk hP hD hS (lv_sub hl [0, 1, 2, 4] rfl)
        · replace h := pf_f c12 h
          refine lv_iconst (v := 0) hx hb dL_isBudget_119 (by decide) ?_
          refine lv_goto (tgt := 157) hx hb dL_isBudget_120 (by decide) ?_
          exact BH_157 _ ih _ hE286 _ _ _ _ h _ _ _ _ hBk hP hD hS (lv_sub hl [0, 1, 2, 4] rfl)
  have BH_611 : ∀ (K : Int32 → Int64 → Int32 → Int32 → OBk → Prop) (hKK : ∀ (v4 : Int32) (v5 : Int64) (v11 : Int32) (v12 : Int32) (Ob : OBk), K v4 v5 v11 v12 Ob → ∀ (H : Heap) (locs : List Loc) (ls : Array Slot) (wb : va_W), isBk k a0 Ob wb → va_P D vwCl wb H → va_D A wb → va_S A s.heap H locs → lv_has ls 17 [(0, .ref a0), (1, .int v1), (4, .int v4), (5, .long v5), (11, .int v11), (12, .int v12)] → W p l e rmL_isBudget s m args below meth c H locs 0 0 Q (F0 m 469 ls [])) (E628 : Int32 → Int32 → OBk → Prop) (hE628 : ∀ (v4 : Int32) (v11 : Int32) (Ob : OBk), E628 v4 v11 Ob → ∀ (H : Heap) (locs : List Loc) (ls : Array Slot) (wb : va_W), isBk k a0 Ob wb → va_P D vwCl wb H → va_D A wb → va_S A s.heap H locs → lv_has ls 17 [(0, .ref a0), (1, .int v1), (4, .int v4), (11, .int v11)] → W p l e rmL_isBudget s m args below meth c H locs 0 0 Q (F0 m 628 ls [])) (v5 : Int64) (v11 : Int32) (v12 : Int32) (v13 : Int32) (s0 : Int32) (Ob : OBk), BL_isBudget_611 K9 v1 K E628 v5 v11 v12 v13 s0 Ob → ∀ (H : Heap) (locs : List Loc) (ls : Array Slot) (wb : va_W), isBk k a0 Ob wb → va_P D vwCl wb H → va_D A wb → va_S A s.heap H locs → lv_has ls 17 [(0, .ref a0), (1, .int v1), (5, .long v5), (11, .int v11), (12, .int v12), (13, .int v13)] → W p l e rmL_isBudget s m args below meth c H locs 0 0 Q (F0 m 611 ls [.int s0]) := by
    intro K hKK E628 hE628 v5 v11 v12 v13 s0 Ob h H locs ls wb hBk hP hD hS hl
    unfold BL_isBudget_611 at h
    refine lv_istore (lv' := [(4, .int s0), (0, .ref a0), (1, .int v1), (5, .long v5), (11, .int v11), (12, .int v12), (13, .int v13)]) hx hb dL_isBudget_611 hl (by decide) rfl (fun ls hl => ?_)
    refine lv_iload hx hb dL_isBudget_613 (lv_at hl 4 rfl) ?_
    refine lv_iconst (v := 1) hx hb dL_isBudget_615 (by decide) ?_
    refine lv_iload hx hb dL_isBudget_616 (lv_at hl 6 rfl) ?_
    refine lv_ishl hx hb dL_isBudget_618 ?_
    refine lv_ior hx hb dL_isBudget_619 ?_
    refine lv_istore (lv' := [(11, .int (v11 ||| ((1 : Int32) <<< ((v13 : Int32) &&& 31)))), (4, .int s0), (0, .ref a0), (1, .int v1), (5, .long v5), (12, .int v12), (13, .int v13)]) hx hb dL_isBudget_620 hl (by decide) rfl (fun ls hl => ?_)
    refine lv_iinc (v := v12 + 1) (lv' := [(12, .int (v12 + 1)), (11, .int (v11 ||| ((1 : Int32) <<< ((v13 : Int32) &&& 31)))), (4, .int s0), (0, .ref a0), (1, .int v1), (5, .long v5), (13, .int v13)]) hx hb dL_isBudget_622 hl (k := 5) rfl rfl (by decide) rfl (fun ls hl => ?_)
    refine lv_goto (tgt := 469) hx hb dL_isBudget_625 (by decide) ?_
    exact hKK _ _ _ _ _ h _ _ _ _ hBk hP hD hS (lv_sub hl [3, 4, 2, 5, 1, 0] rfl)
  have BH_610 : ∀ (K : Int32 → Int64 → Int32 → Int32 → OBk → Prop) (hKK : ∀ (v4 : Int32) (v5 : Int64) (v11 : Int32) (v12 : Int32) (Ob : OBk), K v4 v5 v11 v12 Ob → ∀ (H : Heap) (locs : List Loc) (ls : Array Slot) (wb : va_W), isBk k a0 Ob wb → va_P D vwCl wb H → va_D A wb → va_S A s.heap H locs → lv_has ls 17 [(0, .ref a0), (1, .int v1), (4, .int v4), (5, .long v5), (11, .int v11), (12, .int v12)] → W p l e rmL_isBudget s m args below meth c H locs 0 0 Q (F0 m 469 ls [])) (E628 : Int32 → Int32 → OBk → Prop) (hE628 : ∀ (v4 : Int32) (v11 : Int32) (Ob : OBk), E628 v4 v11 Ob → ∀ (H : Heap) (locs : List Loc) (ls : Array Slot) (wb : va_W), isBk k a0 Ob wb → va_P D vwCl wb H → va_D A wb → va_S A s.heap H locs → lv_has ls 17 [(0, .ref a0), (1, .int v1), (4, .int v4), (11, .int v11)] → W p l e rmL_isBudget s m args below meth c H locs 0 0 Q (F0 m 628 ls [])) (v5 : Int64) (v11 : Int32) (v12 : Int32) (v13 : Int32) (Ob : OBk), BL_isBudget_610 K9 v1 K E628 v5 v11 v12 v13 Ob → ∀ (H : Heap) (locs : List Loc) (ls : Array Slot) (wb : va_W), isBk k a0 Ob wb → va_P D vwCl wb H → va_D A wb → va_S A s.heap H locs → lv_has ls 17 [(0, .ref a0), (1, .int v1), (5, .long v5), (11, .int v11), (12, .int v12), (13, .int v13)] → W p l e rmL_isBudget s m args below meth c H locs 0 0 Q (F0 m 610 ls []) := by
    intro K hKK E628 hE628 v5 v11 v12 v13 Ob h H locs ls wb hBk hP hD hS hl
    unfold BL_isBudget_610 at h
    refine lv_iconst (v := 0) hx hb dL_isBudget_610 (by decide) ?_
    exact BH_611 _ hKK _ hE628 _ _ _ _ _ _ h _ _ _ _ hBk hP hD hS (lv_sub hl [0, 1, 2, 3, 4, 5] rfl)
  have BH_602 : ∀ (K : Int32 → Int64 → Int32 → Int32 → OBk → Prop) (hKK : ∀ (v4 : Int32) (v5 : Int64) (v11 : Int32) (v12 : Int32) (Ob : OBk), K v4 v5 v11 v12 Ob → ∀ (H : Heap) (locs : List Loc) (ls : Array Slot) (wb : va_W), isBk k a0 Ob wb → va_P D vwCl wb H → va_D A wb → va_S A s.heap H locs → lv_has ls 17 [(0, .ref a0), (1, .int v1), (4, .int v4), (5, .long v5), (11, .int v11), (12, .int v12)] → W p l e rmL_isBudget s m args below meth c H locs 0 0 Q (F0 m 469 ls [])) (E628 : Int32 → Int32 → OBk → Prop) (hE628 : ∀ (v4 : Int32) (v11 : Int32) (Ob : OBk), E628 v4 v11 Ob → ∀ (H : Heap) (locs : List Loc) (ls : Array Slot) (wb : va_W), isBk k a0 Ob wb → va_P D vwCl wb H → va_D A wb → va_S A s.heap H locs → lv_has ls 17 [(0, .ref a0), (1, .int v1), (4, .int v4), (11, .int v11)] → W p l e rmL_isBudget s m args below meth c H locs 0 0 Q (F0 m 628 ls [])) (v5 : Int64) (v11 : Int32) (v12 : Int32) (v13 : Int32) (s0 : Int64) (s1 : Int64) (Ob : OBk), BL_isBudget_602 K9 v1 K E628 v5 v11 v12 v13 s0 s1 Ob → ∀ (H : Heap) (locs : List Loc) (ls : Array Slot) (wb : va_W), isBk k a0 Ob wb → va_P D vwCl wb H → va_D A wb → va_S A s.heap H locs → lv_has ls 17 [(0, .ref a0), (1, .int v1), (5, .long v5), (11, .int v11), (12, .int v12), (13, .int v13)] → W p l e rmL_isBudget s m args below meth c H locs 0 0 Q (F0 m 602 ls [.long s1, .long s0]) := by
    intro K hKK E628 hE628 v5 v11 v12 v13 s0 s1 Ob h H locs ls wb hBk hP hD hS hl
    unfold BL_isBudget_602 at h
    refine W.lcmp hx hb dL_isBudget_602 ?_
    refine lv_if_ne (tgt := 610) hx hb dL_isBudget_603 (by decide) (fun c43 => ?_) (fun c43 => ?_)
    · replace h := pf_f c43 h
      exact BH_610 _ hKK _ hE628 _ _ _ _ _ h _ _ _ _ hBk hP hD hS (lv_sub hl [0, 1, 2, 3, 4, 5] rfl)
    · replace h := pf_t c43 h
      refine lv_iconst (v := 1) hx hb dL_isBudget_606 (by decide) ?_
      refine lv_goto (tgt := 611) hx hb dL_isBudget_607 (by decide) ?_
      exact BH_611 _ hKK _ hE628 _ _ _ _ _ _ h _ _ _ _ hBk hP hD hS (lv_sub hl [0, 1, 2, 3, 4, 5] rfl)
  have BH_561 : ∀ (K : Int32 → Int64 → Int32 → Int32 → OBk → Prop) (hKK : ∀ (v4 : Int32) (v5 : Int64) (v11 : Int32) (v12 : Int32) (Ob : OBk), K v4 v5 v11 v12 Ob → ∀ (H : Heap) (locs : List Loc) (ls : Array Slot) (wb : va_W), isBk k a0 Ob wb → va_P D vwCl wb H → va_D A wb → va_S A s.heap H locs → lv_has ls 17 [(0, .ref a0), (1, .int v1), (4, .int v4), (5, .long v5), (11, .int v11), (12, .int v12)] → W p l e rmL_isBudget s m args below meth c H locs 0 0 Q (F0 m 469 ls [])) (E628 : Int32 → Int32 → OBk → Prop) (hE628 : ∀ (v4 : Int32) (v11 : Int32) (Ob : OBk), E628 v4 v11 Ob → ∀ (H : Heap) (locs : List Loc) (ls : Array Slot) (wb : va_W), isBk k a0 Ob wb → va_P D vwCl wb H → va_D A wb → va_S A s.heap H locs → lv_has ls 17 [(0, .ref a0), (1, .int v1), (4, .int v4), (11, .int v11)] → W p l e rmL_isBudget s m args below meth c H locs 0 0 Q (F0 m 628 ls [])) (v5 : Int64) (v11 : Int32) (v12 : Int32) (v13 : Int32) (s0 : Int32) (Ob : OBk), BL_isBudget_561 K9 v1 K E628 v5 v11 v12 v13 s0 Ob → ∀ (H : Heap) (locs : List Loc) (ls : Array Slot) (wb : va_W), isBk k a0 Ob wb → va_P D vwCl wb H → va_D A wb → va_S A s.heap H locs → lv_has ls 17 [(0, .ref a0), (1, .int v1), (5, .long v5), (11, .int v11), (12, .int v12), (13, .int v13)] → W p l e rmL_isBudget s m args below meth c H locs 0 0 Q (F0 m 561 ls [.int s0]) := by
    intro K hKK E628 hE628 v5 v11 v12 v13 s0 Ob h H locs ls wb hBk hP hD hS hl
    unfold BL_isBudget_561 at h
    refine lv_istore (lv' := [(4, .int s0), (0, .ref a0), (1, .int v1), (5, .long v5), (11, .int v11), (12, .int v12), (13, .int v13)]) hx hb dL_isBudget_561 hl (by decide) rfl (fun ls hl => ?_)
    refine lv_iload hx hb dL_isBudget_563 (lv_at hl 0 rfl) ?_
    refine lv_if_eq (tgt := 610) hx hb dL_isBudget_565 (by decide) (fun c38 => ?_) (fun c38 => ?_)
    · replace h := pf_t c38 h
      exact BH_610 _ hKK _ hE628 _ _ _ _ _ h _ _ _ _ hBk hP hD hS (lv_sub hl [1, 2, 3, 4, 5, 6] rfl)
    · replace h := pf_f c38 h
      refine lv_aload_n hx hb dL_isBudget_568 rfl (lv_at hl 1 rfl) ?_
      refine lv_iload_n hx hb dL_isBudget_569 rfl (lv_at hl 2 rfl) ?_
      refine lv_iload hx hb dL_isBudget_570 (lv_at hl 6 rfl) ?_
      refine lv_iconst (v := 1) hx hb dL_isBudget_572 (by decide) ?_
      have hPc := hP
      have hDc := hD
      have hFc := vs_free hDc hS hA
      obtain ⟨fs9, hb9⟩ := isBk_head hBk
      have hM9 := bk_contribution l D k hBk h
      refine xc_lB (va_runV (mc := 0) (ms := 0) (As := [.int v1, .int v13, .int 1]) (rest := []) ⟨hx, hb, hml, hown, hts⟩ (hM9 H.size) (cwV 3 hts gL_isBudget_X6_contribution rfl rfl rfl (by decide +kernel) ⟨Nat.le_of_ble_eq_true rfl, Nat.le_of_ble_eq_true rfl⟩) ⟨pn_blind, va_recv hK hPc (ci := 6) (q0 := 0) rfl hb9, pn_start hPc hK hDc hNW⟩ rfl rfl hl.1 rfl (lv_room (Nat.le_of_ble_eq_true rfl)) dL_isBudget_573 ⟨Nat.le_of_ble_eq_true rfl, Nat.le_of_ble_eq_true rfl⟩) hS hFc (fun r39 Ob39 wb39 H1 locs h hBk9 hP1 hD1 hk1 hS => ?_)
      obtain ⟨hP, hD⟩ := vj_all hFc hP1 hD1
      clear hP1 hD1 hk1 hFc hPc hDc
      replace hBk := hBk9
      clear hBk9
      generalize H1 = H at hP hS ⊢
      replace hP : va_P D vwCl wb39 H := hP
      replace hD : va_D A wb39 := hD
      obtain ⟨wb, hwb⟩ : ∃ z, z = wb39 := ⟨_, rfl⟩
      subst hwb
      clear hM9
      refine lv_lload hx hb dL_isBudget_576 (lv_at hl 3 rfl) ?_
      refine lv_lconst (v := 0) hx hb dL_isBudget_578 (by decide) ?_
      refine W.lcmp hx hb dL_isBudget_579 ?_
      refine lv_if_ne (tgt := 587) hx hb dL_isBudget_580 (by decide) (fun c40 => ?_) (fun c40 => ?_)
      · replace h := pf_f c40 h
        refine lv_ldc2 (v := 100) hx hb hown kc117 dL_isBudget_587 ?_
        refine lv_aload_n hx hb dL_isBudget_590 rfl (lv_at hl 1 rfl) ?_
        refine lv_iload_n hx hb dL_isBudget_591 rfl (lv_at hl 2 rfl) ?_
        refine lv_iload hx hb dL_isBudget_592 (lv_at hl 6 rfl) ?_
        refine lv_iconst (v := 0) hx hb dL_isBudget_594 (by decide) ?_
        have hPc := hP
        have hDc := hD
        have hFc := vs_free hDc hS hA
        obtain ⟨fs9, hb9⟩ := isBk_head hBk
        have hM9 := bk_contribution l D k hBk h
        refine xc_lB (va_runV (mc := 0) (ms := 0) (As := [.int v1, .int v13, .int 0]) (rest := [.long 100, .long r39]) ⟨hx, hb, hml, hown, hts⟩ (hM9 H.size) (cwV 3 hts gL_isBudget_X6_contribution rfl rfl rfl (by decide +kernel) ⟨Nat.le_of_ble_eq_true rfl, Nat.le_of_ble_eq_true rfl⟩) ⟨pn_blind, va_recv hK hPc (ci := 6) (q0 := 0) rfl hb9, pn_start hPc hK hDc hNW⟩ rfl rfl hl.1 rfl (lv_room (Nat.le_of_ble_eq_true rfl)) dL_isBudget_595 ⟨Nat.le_of_ble_eq_true rfl, Nat.le_of_ble_eq_true rfl⟩) hS hFc (fun r41 Ob41 wb41 H1 locs h hBk9 hP1 hD1 hk1 hS => ?_)
        obtain ⟨hP, hD⟩ := vj_all hFc hP1 hD1
        clear hP1 hD1 hk1 hFc hPc hDc
        replace hBk := hBk9
        clear hBk9
        generalize H1 = H at hP hS ⊢
        replace hP : va_P D vwCl wb41 H := hP
        replace hD : va_D A wb41 := hD
        obtain ⟨wb, hwb⟩ : ∃ z, z = wb41 := ⟨_, rfl⟩
        subst hwb
        clear hM9
        refine lv_lmul hx hb dL_isBudget_598 ?_
        refine lv_lload hx hb dL_isBudget_599 (lv_at hl 3 rfl) ?_
        obtain ⟨hz42, h⟩ := h
        refine lv_ldiv hx hb dL_isBudget_601 hz42 ?_
        exact BH_602 _ hKK _ hE628 _ _ _ _ _ _ _ h _ _ _ _ hBk hP hD hS (lv_sub hl [1, 2, 3, 4, 5, 6] rfl)
      · replace h := pf_t c40 h
        refine lv_lconst (v := 0) hx hb dL_isBudget_583 (by decide) ?_
        refine lv_goto (tgt := 602) hx hb dL_isBudget_584 (by decide) ?_
        exact BH_602 _ hKK _ hE628 _ _ _ _ _ _ _ h _ _ _ _ hBk hP hD hS (lv_sub hl [1, 2, 3, 4, 5, 6] rfl)
  have BH_556 : ∀ (K : Int32 → Int64 → Int32 → Int32 → OBk → Prop) (hKK : ∀ (v4 : Int32) (v5 : Int64) (v11 : Int32) (v12 : Int32) (Ob : OBk), K v4 v5 v11 v12 Ob → ∀ (H : Heap) (locs : List Loc) (ls : Array Slot) (wb : va_W), isBk k a0 Ob wb → va_P D vwCl wb H → va_D A wb → va_S A s.heap H locs → lv_has ls 17 [(0, .ref a0), (1, .int v1), (4, .int v4), (5, .long v5), (11, .int v11), (12, .int v12)] → W p l e rmL_isBudget s m args below meth c H locs 0 0 Q (F0 m 469 ls [])) (E628 : Int32 → Int32 → OBk → Prop) (hE628 : ∀ (v4 : Int32) (v11 : Int32) (Ob : OBk), E628 v4 v11 Ob → ∀ (H : Heap) (locs : List Loc) (ls : Array Slot) (wb : va_W), isBk k a0 Ob wb → va_P D vwCl wb H → va_D A wb → va_S A s.heap H locs → lv_has ls 17 [(0, .ref a0), (1, .int v1), (4, .int v4), (11, .int v11)] → W p l e rmL_isBudget s m args below meth c H locs 0 0 Q (F0 m 628 ls [])) (v5 : Int64) (v11 : Int32) (v12 : Int32) (v13 : Int32) (Ob : OBk), BL_isBudget_556 K9 v1 K E628 v5 v11 v12 v13 Ob → ∀ (H : Heap) (locs : List Loc) (ls : Array Slot) (wb : va_W), isBk k a0 Ob wb → va_P D vwCl wb H → va_D A wb → va_S A s.heap H locs → lv_has ls 17 [(0, .ref a0), (1, .int v1), (5, .long v5), (11, .int v11), (12, .int v12), (13, .int v13)] → W p l e rmL_isBudget s m args below meth c H locs 0 0 Q (F0 m 556 ls []) := by
    intro K hKK E628 hE628 v5 v11 v12 v13 Ob h H locs ls wb hBk hP hD hS hl
    unfold BL_isBudget_556 at h
    refine lv_iconst (v := 1) hx hb dL_isBudget_556 (by decide) ?_
    refine lv_goto (tgt := 561) hx hb dL_isBudget_557 (by decide) ?_
    exact BH_561 _ hKK _ hE628 _ _ _ _ _ _ h _ _ _ _ hBk hP hD hS (lv_sub hl [0, 1, 2, 3, 4, 5] rfl)
  have BH_560 : ∀ (K : Int32 → Int64 → Int32 → Int32 → OBk → Prop) (hKK : ∀ (v4 : Int32) (v5 : Int64) (v11 : Int32) (v12 : Int32) (Ob : OBk), K v4 v5 v11 v12 Ob → ∀ (H : Heap) (locs : List Loc) (ls : Array Slot) (wb : va_W), isBk k a0 Ob wb → va_P D vwCl wb H → va_D A wb → va_S A s.heap H locs → lv_has ls 17 [(0, .ref a0), (1, .int v1), (4, .int v4), (5, .long v5), (11, .int v11), (12, .int v12)] → W p l e rmL_isBudget s m args below meth c H locs 0 0 Q (F0 m 469 ls [])) (E628 : Int32 → Int32 → OBk → Prop) (hE628 : ∀ (v4 : Int32) (v11 : Int32) (Ob : OBk), E628 v4 v11 Ob → ∀ (H : Heap) (locs : List Loc) (ls : Array Slot) (wb : va_W), isBk k a0 Ob wb → va_P D vwCl wb H → va_D A wb → va_S A s.heap H locs → lv_has ls 17 [(0, .ref a0), (1, .int v1), (4, .int v4), (11, .int v11)] → W p l e rmL_isBudget s m args below meth c H locs 0 0 Q (F0 m 628 ls [])) (v5 : Int64) (v11 : Int32) (v12 : Int32) (v13 : Int32) (Ob : OBk), BL_isBudget_560 K9 v1 K E628 v5 v11 v12 v13 Ob → ∀ (H : Heap) (locs : List Loc) (ls : Array Slot) (wb : va_W), isBk k a0 Ob wb → va_P D vwCl wb H → va_D A wb → va_S A s.heap H locs → lv_has ls 17 [(0, .ref a0), (1, .int v1), (5, .long v5), (11, .int v11), (12, .int v12), (13, .int v13)] → W p l e rmL_isBudget s m args below meth c H locs 0 0 Q (F0 m 560 ls []) := by
    intro K hKK E628 hE628 v5 v11 v12 v13 Ob h H locs ls wb hBk hP hD hS hl
    unfold BL_isBudget_560 at h
    refine lv_iconst (v := 0) hx hb dL_isBudget_560 (by decide) ?_
    exact BH_561 _ hKK _ hE628 _ _ _ _ _ _ h _ _ _ _ hBk hP hD hS (lv_sub hl [0, 1, 2, 3, 4, 5] rfl)
  have BH_509 : ∀ (K : Int32 → Int64 → Int32 → Int32 → OBk → Prop) (hKK : ∀ (v4 : Int32) (v5 : Int64) (v11 : Int32) (v12 : Int32) (Ob : OBk), K v4 v5 v11 v12 Ob → ∀ (H : Heap) (locs : List Loc) (ls : Array Slot) (wb : va_W), isBk k a0 Ob wb → va_P D vwCl wb H → va_D A wb → va_S A s.heap H locs → lv_has ls 17 [(0, .ref a0), (1, .int v1), (4, .int v4), (5, .long v5), (11, .int v11), (12, .int v12)] → W p l e rmL_isBudget s m args below meth c H locs 0 0 Q (F0 m 469 ls [])) (E628 : Int32 → Int32 → OBk → Prop) (hE628 : ∀ (v4 : Int32) (v11 : Int32) (Ob : OBk), E628 v4 v11 Ob → ∀ (H : Heap) (locs : List Loc) (ls : Array Slot) (wb : va_W), isBk k a0 Ob wb → va_P D vwCl wb H → va_D A wb → va_S A s.heap H locs → lv_has ls 17 [(0, .ref a0), (1, .int v1), (4, .int v4), (11, .int v11)] → W p l e rmL_isBudget s m args below meth c H locs 0 0 Q (F0 m 628 ls [])) (v5 : Int64) (v11 : Int32) (v12 : Int32) (v13 : Int32) (s0 : Int32) (Ob : OBk), BL_isBudget_509 K9 v1 K E628 v5 v11 v12 v13 s0 Ob → ∀ (H : Heap) (locs : List Loc) (ls : Array Slot) (wb : va_W), isBk k a0 Ob wb → va_P D vwCl wb H → va_D A wb → va_S A s.heap H locs → lv_has ls 17 [(0, .ref a0), (1, .int v1), (5, .long v5), (11, .int v11), (12, .int v12), (13, .int v13)] → W p l e rmL_isBudget s m args below meth c H locs 0 0 Q (F0 m 509 ls [.int s0]) := by
    intro K hKK E628 hE628 v5 v11 v12 v13 s0 Ob h H locs ls wb hBk hP hD hS hl
    unfold BL_isBudget_509 at h
    refine lv_istore (lv' := [(14, .int s0), (0, .ref a0), (1, .int v1), (5, .long v5), (11, .int v11), (12, .int v12), (13, .int v13)]) hx hb dL_isBudget_509 hl (by decide) rfl (fun ls hl => ?_)
    refine lv_aload_n hx hb dL_isBudget_511 rfl (lv_at hl 1 rfl) ?_
    refine lv_iload_n hx hb dL_isBudget_512 rfl (lv_at hl 2 rfl) ?_
    refine lv_iload hx hb dL_isBudget_513 (lv_at hl 0 rfl) ?_
    refine lv_iconst (v := 0) hx hb dL_isBudget_515 (by decide) ?_
    have hPc := hP
    have hDc := hD
    have hFc := vs_free hDc hS hA
    obtain ⟨fs9, hb9⟩ := isBk_head hBk
    have hM9 := bk_contribution l D k hBk h
    refine xc_lB (va_runV (mc := 0) (ms := 0) (As := [.int v1, .int s0, .int 0]) (rest := []) ⟨hx, hb, hml, hown, hts⟩ (hM9 H.size) (cwV 3 hts gL_isBudget_X6_contribution rfl rfl rfl (by decide +kernel) ⟨Nat.le_of_ble_eq_true rfl, Nat.le_of_ble_eq_true rfl⟩) ⟨pn_blind, va_recv hK hPc (ci := 6) (q0 := 0) rfl hb9, pn_start hPc hK hDc hNW⟩ rfl rfl hl.1 rfl (lv_room (Nat.le_of_ble_eq_true rfl)) dL_isBudget_516 ⟨Nat.le_of_ble_eq_true rfl, Nat.le_of_ble_eq_true rfl⟩) hS hFc (fun r35 Ob35 wb35 H1 locs h hBk9 hP1 hD1 hk1 hS => ?_)
    obtain ⟨hP, hD⟩ := vj_all hFc hP1 hD1
    clear hP1 hD1 hk1 hFc hPc hDc
    replace hBk := hBk9
    clear hBk9
    generalize H1 = H at hP hS ⊢
    replace hP : va_P D vwCl wb35 H := hP
    replace hD : va_D A wb35 := hD
    obtain ⟨wb, hwb⟩ : ∃ z, z = wb35 := ⟨_, rfl⟩
    subst hwb
    clear hM9
    refine lv_lstore (lv' := [(15, .long r35), (14, .int s0), (0, .ref a0), (1, .int v1), (5, .long v5), (11, .int v11), (12, .int v12), (13, .int v13)]) hx hb dL_isBudget_519 hl (by decide) rfl (fun ls hl => ?_)
    refine lv_lload hx hb dL_isBudget_521 (lv_at hl 0 rfl) ?_
    refine lv_aload_n hx hb dL_isBudget_523 rfl (lv_at hl 2 rfl) ?_
    refine lv_iload_n hx hb dL_isBudget_524 rfl (lv_at hl 3 rfl) ?_
    refine lv_iload hx hb dL_isBudget_525 (lv_at hl 7 rfl) ?_
    refine lv_iconst (v := 0) hx hb dL_isBudget_527 (by decide) ?_
    have hPc := hP
    have hDc := hD
    have hFc := vs_free hDc hS hA
    obtain ⟨fs9, hb9⟩ := isBk_head hBk
    have hM9 := bk_contribution l D k hBk h
    refine xc_lB (va_runV (mc := 0) (ms := 0) (As := [.int v1, .int v13, .int 0]) (rest := [.long r35]) ⟨hx, hb, hml, hown, hts⟩ (hM9 H.size) (cwV 3 hts gL_isBudget_X6_contribution rfl rfl rfl (by decide +kernel) ⟨Nat.le_of_ble_eq_true rfl, Nat.le_of_ble_eq_true rfl⟩) ⟨pn_blind, va_recv hK hPc (ci := 6) (q0 := 0) rfl hb9, pn_start hPc hK hDc hNW⟩ rfl rfl hl.1 rfl (lv_room (Nat.le_of_ble_eq_true rfl)) dL_isBudget_528 ⟨Nat.le_of_ble_eq_true rfl, Nat.le_of_ble_eq_true rfl⟩) hS hFc (fun r36 Ob36 wb36 H1 locs h hBk9 hP1 hD1 hk1 hS => ?_)
    obtain ⟨hP, hD⟩ := vj_all hFc hP1 hD1
    clear hP1 hD1 hk1 hFc hPc hDc
    replace hBk := hBk9
    clear hBk9
    generalize H1 = H at hP hS ⊢
    replace hP : va_P D vwCl wb36 H := hP
    replace hD : va_D A wb36 := hD
    obtain ⟨wb, hwb⟩ : ∃ z, z = wb36 := ⟨_, rfl⟩
    subst hwb
    clear hM9
    refine W.lcmp hx hb dL_isBudget_531 ?_
    refine lv_if_gt (tgt := 556) hx hb dL_isBudget_532 (by decide) (fun c37 => ?_) (fun c37 => ?_)
    · replace h := pf_t c37 h
      exact BH_556 _ hKK _ hE628 _ _ _ _ _ h _ _ _ _ hBk hP hD hS (lv_sub hl [2, 3, 4, 5, 6, 7] rfl)
    · replace h := pf_f c37 h
      refine lv_lload hx hb dL_isBudget_535 (lv_at hl 0 rfl) ?_
      refine lv_aload_n hx hb dL_isBudget_537 rfl (lv_at hl 2 rfl) ?_
      refine lv_iload_n hx hb dL_isBudget_538 rfl (lv_at hl 3 rfl) ?_
      refine lv_iload hx hb dL_isBudget_539 (lv_at hl 7 rfl) ?_
      refine lv_iconst (v := 0) hx hb dL_isBudget_541 (by decide) ?_
      have hPc := hP
      have hDc := hD
      have hFc := vs_free hDc hS hA
      obtain ⟨fs9, hb9⟩ := isBk_head hBk
      have hM9 := bk_contribution l D k hBk h
      refine xc_lB (va_runV (mc := 0) (ms := 0) (As := [.int v1, .int v13, .int 0]) (rest := [.long r35]) ⟨hx, hb, hml, hown, hts⟩ (hM9 H.size) (cwV 3 hts gL_isBudget_X6_contribution rfl rfl rfl (by decide +kernel) ⟨Nat.le_of_ble_eq_true rfl, Nat.le_of_ble_eq_true rfl⟩) ⟨pn_blind, va_recv hK hPc (ci := 6) (q0 := 0) rfl hb9, pn_start hPc hK hDc hNW⟩ rfl rfl hl.1 rfl (lv_room (Nat.le_of_ble_eq_true rfl)) dL_isBudget_542 ⟨Nat.le_of_ble_eq_true rfl, Nat.le_of_ble_eq_true rfl⟩) hS hFc (fun r44 Ob44 wb44 H1 locs h hBk9 hP1 hD1 hk1 hS => ?_)
      obtain ⟨hP, hD⟩ := vj_all hFc hP1 hD1
      clear hP1 hD1 hk1 hFc hPc hDc
      replace hBk := hBk9
      clear hBk9
      generalize H1 = H at hP hS ⊢
      replace hP : va_P D vwCl wb44 H := hP
      replace hD : va_D A wb44 := hD
      obtain ⟨wb, hwb⟩ : ∃ z, z = wb44 := ⟨_, rfl⟩
      subst hwb
      clear hM9
      refine W.lcmp hx hb dL_isBudget_545 ?_
      refine lv_if_ne (tgt := 560) hx hb dL_isBudget_546 (by decide) (fun c45 => ?_) (fun c45 => ?_)
      · replace h := pf_f c45 h
        exact BH_560 _ hKK _ hE628 _ _ _ _ _ h _ _ _ _ hBk hP hD hS (lv_sub hl [2, 3, 4, 5, 6, 7] rfl)
      · replace h := pf_t c45 h
        refine lv_iload hx hb dL_isBudget_549 (lv_at hl 1 rfl) ?_
        refine lv_iload hx hb dL_isBudget_551 (lv_at hl 7 rfl) ?_
        refine lv_icmp_gt (tgt := 560) hx hb dL_isBudget_553 (by decide) (fun c46 => ?_) (fun c46 => ?_)
        · replace h := pf_t c46 h
          exact BH_560 _ hKK _ hE628 _ _ _ _ _ h _ _ _ _ hBk hP hD hS (lv_sub hl [2, 3, 4, 5, 6, 7] rfl)
        · replace h := pf_f c46 h
          exact BH_556 _ hKK _ hE628 _ _ _ _ _ h _ _ _ _ hBk hP hD hS (lv_sub hl [2, 3, 4, 5, 6, 7] rfl)
  have LH_469 : ∀ (E628 : Int32 → Int32 → OBk → Prop) (hE628 : ∀ (v4 : Int32) (v11 : Int32) (Ob : OBk), E628 v4 v11 Ob → ∀ (H : Heap) (locs : List Loc) (ls : Array Slot) (wb : va_W), isBk k a0 Ob wb → va_P D vwCl wb H → va_D A wb → va_S A s.heap H locs → lv_has ls 17 [(0, .ref a0), (1, .int v1), (4, .int v4), (11, .int v11)] → W p l e rmL_isBudget s m args below meth c H locs 0 0 Q (F0 m 628 ls [])) (n : Nat) (v4 : Int32) (v5 : Int64) (v11 : Int32) (v12 : Int32) (Ob : OBk), LL_isBudget_469 K9 v1 E628 n v4 v5 v11 v12 Ob → ∀ (H : Heap) (locs : List Loc) (ls : Array Slot) (wb : va_W), isBk k a0 Ob wb → va_P D vwCl wb H → va_D A wb → va_S A s.heap H locs → lv_has ls 17 [(0, .ref a0), (1, .int v1), (4, .int v4), (5, .long v5), (11, .int v11), (12, .int v12)] → W p l e rmL_isBudget s m args below meth c H locs 0 0 Q (F0 m 469 ls []) := by
    intro E628 hE628 n
    induction n with
    | zero => intro v4 v5 v11 v12 Ob h; exact h.elim
    | succ n ih =>
    intro v4 v5 v11 v12 Ob h H locs ls wb hBk hP hD hS hl
    rw [LL_isBudget_469] at h
    refine lv_iload hx hb dL_isBudget_469 (lv_at hl 5 rfl) ?_
    refine lv_bipush (v := 6) hx hb dL_isBudget_471 (by decide) ?_
    refine lv_icmp_ge (tgt := 628) hx hb dL_isBudget_473 (by decide) (fun c30 => ?_) (fun c30 => ?_)
    · replace h := pf_t c30 h
      exact hE628 _ _ _ h _ _ _ _ hBk hP hD hS (lv_sub hl [0, 1, 2, 4] rfl)
    · replace h := pf_f c30 h
      refine lv_iload hx hb dL_isBudget_476 (lv_at hl 2 rfl) ?_
      refine lv_if_eq (tgt := 628) hx hb dL_isBudget_478 (by decide) (fun c31 => ?_) (fun c31 => ?_)
      · replace h := pf_t c31 h
        exact hE628 _ _ _ h _ _ _ _ hBk hP hD hS (lv_sub hl [0, 1, 2, 4] rfl)
      · replace h := pf_f c31 h
        refine lv_aload_n hx hb dL_isBudget_481 rfl (lv_at hl 0 rfl) ?_
        refine lv_iload_n hx hb dL_isBudget_482 rfl (lv_at hl 1 rfl) ?_
        refine lv_iload hx hb dL_isBudget_483 (lv_at hl 5 rfl) ?_
        have hPc := hP
        have hDc := hD
        have hFc := vs_free hDc hS hA
        obtain ⟨fs9, hb9⟩ := isBk_head hBk
        have hM9 := bk_ranked l D k hBk h
        refine xc_iB (va_runV (mc := 0) (ms := 0) (As := [.int v1, .int v12]) (rest := []) ⟨hx, hb, hml, hown, hts⟩ (hM9 H.size) (cwV 2 hts gL_isBudget_X6_ranked rfl rfl rfl (by decide +kernel) ⟨Nat.le_of_ble_eq_true rfl, Nat.le_of_ble_eq_true rfl⟩) ⟨pn_blind, va_recv hK hPc (ci := 6) (q0 := 0) rfl hb9, pn_start hPc hK hDc hNW⟩ rfl rfl hl.1 rfl (lv_room (Nat.le_of_ble_eq_true rfl)) dL_isBudget_485 ⟨Nat.le_of_ble_eq_true rfl, Nat.le_of_ble_eq_true rfl⟩) hS hFc (fun r32 Ob32 wb32 H1 locs h hBk9 hP1 hD1 hk1 hS => ?_)
        obtain ⟨hP, hD⟩ := vj_all hFc hP1 hD1
        clear hP1 hD1 hk1 hFc hPc hDc
        replace hBk := hBk9
        clear hBk9
        generalize H1 = H at hP hS ⊢
        replace hP : va_P D vwCl wb32 H := hP
        replace hD : va_D A wb32 := hD
        obtain ⟨wb, hwb⟩ : ∃ z, z = wb32 := ⟨_, rfl⟩
        subst hwb
        clear hM9
        refine lv_istore (lv' := [(13, .int r32), (0, .ref a0), (1, .int v1), (4, .int v4), (5, .long v5), (11, .int v11), (12, .int v12)]) hx hb dL_isBudget_488 hl (by decide) rfl (fun ls hl => ?_)
        refine lv_iload hx hb dL_isBudget_490 (lv_at hl 6 rfl) ?_
        refine lv_if_ne (tgt := 500) hx hb dL_isBudget_492 (by decide) (fun c33 => ?_) (fun c33 => ?_)
        · replace h := pf_f c33 h
          refine lv_aload_n hx hb dL_isBudget_500 rfl (lv_at hl 1 rfl) ?_
          refine lv_iload_n hx hb dL_isBudget_501 rfl (lv_at hl 2 rfl) ?_
          refine lv_iload hx hb dL_isBudget_502 (lv_at hl 6 rfl) ?_
          refine lv_iconst (v := 1) hx hb dL_isBudget_504 (by decide) ?_
          refine lv_isub hx hb dL_isBudget_505 ?_
          have hPc := hP
          have hDc := hD
          have hFc := vs_free hDc hS hA
          obtain ⟨fs9, hb9⟩ := isBk_head hBk
          have hM9 := bk_ranked l D k hBk h
          refine xc_iB (va_runV (mc := 0) (ms := 0) (As := [.int v1, .int (v12 - 1)]) (rest := []) ⟨hx, hb, hml, hown, hts⟩ (hM9 H.size) (cwV 2 hts gL_isBudget_X6_ranked rfl rfl rfl (by decide +kernel) ⟨Nat.le_of_ble_eq_true rfl, Nat.le_of_ble_eq_true rfl⟩) ⟨pn_blind, va_recv hK hPc (ci := 6) (q0 := 0) rfl hb9, pn_start hPc hK hDc hNW⟩ rfl rfl hl.1 rfl (lv_room (Nat.le_of_ble_eq_true rfl)) dL_isBudget_506 ⟨Nat.le_of_ble_eq_true rfl, Nat.le_of_ble_eq_true rfl⟩) hS hFc (fun r34 Ob34 wb34 H1 locs h hBk9 hP1 hD1 hk1 hS => ?_)
          obtain ⟨hP, hD⟩ := vj_all hFc hP1 hD1
          clear hP1 hD1 hk1 hFc hPc hDc
          replace hBk := hBk9
          clear hBk9
          generalize H1 = H at hP hS ⊢
          replace hP : va_P D vwCl wb34 H := hP
          replace hD : va_D A wb34 := hD
          obtain ⟨wb, hwb⟩ : ∃ z, z = wb34 := ⟨_, rfl⟩
          subst hwb
          clear hM9
          exact BH_509 _ ih _ hE628 _ _ _ _ _ _ h _ _ _ _ hBk hP hD hS (lv_sub hl [1, 2, 4, 5, 6, 0] rfl)
        · replace h := pf_t c33 h
          refine lv_iload hx hb dL_isBudget_495 (lv_at hl 0 rfl) ?_
          refine lv_goto (tgt := 509) hx hb dL_isBudget_497 (by decide) ?_
          exact BH_509 _ ih _ hE628 _ _ _ _ _ _ h _ _ _ _ hBk hP hD hS (lv_sub hl [1, 2, 4, 5, 6, 0] rfl)
  have BH_628 : ∀ (v4 : Int32) (v11 : Int32) (Ob : OBk), BL_isBudget_628 K9 v1 v4 v11 Ob → ∀ (H : Heap) (locs : List Loc) (ls : Array Slot) (wb : va_W), isBk k a0 Ob wb → va_P D vwCl wb H → va_D A wb → va_S A s.heap H locs → lv_has ls 17 [(0, .ref a0), (1, .int v1), (4, .int v4), (11, .int v11)] → W p l e rmL_isBudget s m args below meth c H locs 0 0 Q (F0 m 628 ls []) := by
    intro  v4 v11 Ob h H locs ls wb hBk hP hD hS hl
    unfold BL_isBudget_628 at h
    refine lv_iload hx hb dL_isBudget_628 (lv_at hl 2 rfl) ?_
    refine lv_if_eq (tgt := 665) hx hb dL_isBudget_630 (by decide) (fun c47 => ?_) (fun c47 => ?_)
    · replace h := pf_t c47 h
      refine lv_iconst (v := 0) hx hb dL_isBudget_665 (by decide) ?_
      refine W.widen (k := 0) (n := 0) (Nat.le_of_ble_eq_true rfl) (Nat.le_of_ble_eq_true rfl) ?_
      obtain ⟨hnr, h⟩ := h
      have hP9 := hP
      rw [hQ]
      exact W.zret hx hb hr hnr (fun t ht hW => ⟨⟨_, (Ob, wb), rfl, pB_i h hBk, by rw [ht]; exact hP9, va_K.moved hW.alike hK, hD⟩, hS.F ht⟩) hS.2.2 dL_isBudget_666
    · replace h := pf_f c47 h
      refine lv_iload hx hb dL_isBudget_633 (lv_at hl 3 rfl) ?_
      refine lv_bipush (v := 63) hx hb dL_isBudget_635 (by decide) ?_
      refine lv_icmp_ne (tgt := 665) hx hb dL_isBudget_637 (by decide) (fun c48 => ?_) (fun c48 => ?_)
      · replace h := pf_f c48 h
        refine lv_iconst (v := 0) hx hb dL_isBudget_665 (by decide) ?_
        refine W.widen (k := 0) (n := 0) (Nat.le_of_ble_eq_true rfl) (Nat.le_of_ble_eq_true rfl) ?_
        obtain ⟨hnr, h⟩ := h
        have hP9 := hP
        rw [hQ]
        exact W.zret hx hb hr hnr (fun t ht hW => ⟨⟨_, (Ob, wb), rfl, pB_i h hBk, by rw [ht]; exact hP9, va_K.moved hW.alike hK, hD⟩, hS.F ht⟩) hS.2.2 dL_isBudget_666
      · replace h := pf_t c48 h
        refine lv_aload_n hx hb dL_isBudget_640 rfl (lv_at hl 0 rfl) ?_
        refine lv_iload_n hx hb dL_isBudget_641 rfl (lv_at hl 1 rfl) ?_
        refine lv_bipush (v := 6) hx hb dL_isBudget_642 (by decide) ?_
        have hPc := hP
        have hDc := hD
        have hFc := vs_free hDc hS hA
        obtain ⟨fs9, hb9⟩ := isBk_head hBk
        have hM9 := bk_ranked l D k hBk h
        refine xc_iB (va_runV (mc := 0) (ms := 0) (As := [.int v1, .int 6]) (rest := []) ⟨hx, hb, hml, hown, hts⟩ (hM9 H.size) (cwV 2 hts gL_isBudget_X6_ranked rfl rfl rfl (by decide +kernel) ⟨Nat.le_of_ble_eq_true rfl, Nat.le_of_ble_eq_true rfl⟩) ⟨pn_blind, va_recv hK hPc (ci := 6) (q0 := 0) rfl hb9, pn_start hPc hK hDc hNW⟩ rfl rfl hl.1 rfl (lv_room (Nat.le_of_ble_eq_true rfl)) dL_isBudget_644 ⟨Nat.le_of_ble_eq_true rfl, Nat.le_of_ble_eq_true rfl⟩) hS hFc (fun r49 Ob49 wb49 H1 locs h hBk9 hP1 hD1 hk1 hS => ?_)
        obtain ⟨hP, hD⟩ := vj_all hFc hP1 hD1
        clear hP1 hD1 hk1 hFc hPc hDc
        replace hBk := hBk9
        clear hBk9
        generalize H1 = H at hP hS ⊢
        replace hP : va_P D vwCl wb49 H := hP
        replace hD : va_D A wb49 := hD
        obtain ⟨wb, hwb⟩ : ∃ z, z = wb49 := ⟨_, rfl⟩
        subst hwb
        clear hM9
        refine lv_iconst (v := -1) hx hb dL_isBudget_647 (by decide) ?_
        refine lv_icmp_ne (tgt := 665) hx hb dL_isBudget_648 (by decide) (fun c50 => ?_) (fun c50 => ?_)
        · replace h := pf_f c50 h
          refine lv_iconst (v := 0) hx hb dL_isBudget_665 (by decide) ?_
          refine W.widen (k := 0) (n := 0) (Nat.le_of_ble_eq_true rfl) (Nat.le_of_ble_eq_true rfl) ?_
          obtain ⟨hnr, h⟩ := h
          have hP9 := hP
          rw [hQ]
          exact W.zret hx hb hr hnr (fun t ht hW => ⟨⟨_, (Ob49, wb), rfl, pB_i h hBk, by rw [ht]; exact hP9, va_K.moved hW.alike hK, hD⟩, hS.F ht⟩) hS.2.2 dL_isBudget_666
        · replace h := pf_t c50 h
          refine lv_aload_n hx hb dL_isBudget_651 rfl (lv_at hl 0 rfl) ?_
          refine lv_iload_n hx hb dL_isBudget_652 rfl (lv_at hl 1 rfl) ?_
          have hPc := hP
          have hDc := hD
          have hFc := vs_free hDc hS hA
          obtain ⟨fs9, hb9⟩ := isBk_head hBk
          have hM9 := bk_disagrees l D k hBk h
          refine xc_iB (va_runV (mc := 0) (ms := 0) (As := [.int v1]) (rest := []) ⟨hx, hb, hml, hown, hts⟩ (hM9 H.size) (cwV 1 hts gL_isBudget_X6_disagrees rfl rfl rfl (by decide +kernel) ⟨Nat.le_of_ble_eq_true rfl, Nat.le_of_ble_eq_true rfl⟩) ⟨pn_blind, va_recv hK hPc (ci := 6) (q0 := 0) rfl hb9, pn_start hPc hK hDc hNW⟩ rfl rfl hl.1 rfl (lv_room (Nat.le_of_ble_eq_true rfl)) dL_isBudget_653 ⟨Nat.le_of_ble_eq_true rfl, Nat.le_of_ble_eq_true rfl⟩) hS hFc (fun r51 Ob51 wb51 H1 locs h hBk9 hP1 hD1 hk1 hS => ?_)
          obtain ⟨hP, hD⟩ := vj_all hFc hP1 hD1
          clear hP1 hD1 hk1 hFc hPc hDc
          replace hBk := hBk9
          clear hBk9
          generalize H1 = H at hP hS ⊢
          replace hP : va_P D vwCl wb51 H := hP
          replace hD : va_D A wb51 := hD
          obtain ⟨wb, hwb⟩ : ∃ z, z = wb51 := ⟨_, rfl⟩
          subst hwb
          clear hM9
          refine lv_bipush (v := 60) hx hb dL_isBudget_656 (by decide) ?_
          refine lv_icmp_ge (tgt := 665) hx hb dL_isBudget_658 (by decide) (fun c52 => ?_) (fun c52 => ?_)
          · replace h := pf_t c52 h
            refine lv_iconst (v := 0) hx hb dL_isBudget_665 (by decide) ?_
            refine W.widen (k := 0) (n := 0) (Nat.le_of_ble_eq_true rfl) (Nat.le_of_ble_eq_true rfl) ?_
            obtain ⟨hnr, h⟩ := h
            have hP9 := hP
            rw [hQ]
            exact W.zret hx hb hr hnr (fun t ht hW => ⟨⟨_, (Ob51, wb), rfl, pB_i h hBk, by rw [ht]; exact hP9, va_K.moved hW.alike hK, hD⟩, hS.F ht⟩) hS.2.2 dL_isBudget_666
          · replace h := pf_f c52 h
            refine lv_iconst (v := 1) hx hb dL_isBudget_661 (by decide) ?_
            refine lv_goto (tgt := 666) hx hb dL_isBudget_662 (by decide) ?_
            refine W.widen (k := 0) (n := 0) (Nat.le_of_ble_eq_true rfl) (Nat.le_of_ble_eq_true rfl) ?_
            obtain ⟨hnr, h⟩ := h
            have hP9 := hP
            rw [hQ]
            exact W.zret hx hb hr hnr (fun t ht hW => ⟨⟨_, (Ob51, wb), rfl, pB_i h hBk, by rw [ht]; exact hP9, va_K.moved hW.alike hK, hD⟩, hS.F ht⟩) hS.2.2 dL_isBudget_666
  have BH_461 : ∀ (v5 : Int64) (s0 : Int32) (Ob : OBk), BL_isBudget_461 K9 v1 v5 s0 Ob → ∀ (H : Heap) (locs : List Loc) (ls : Array Slot) (wb : va_W), isBk k a0 Ob wb → va_P D vwCl wb H → va_D A wb → va_S A s.heap H locs → lv_has ls 17 [(0, .ref a0), (1, .int v1), (5, .long v5)] → W p l e rmL_isBudget s m args below meth c H locs 0 0 Q (F0 m 461 ls [.int s0]) := by
    intro  v5 s0 Ob h H locs ls wb hBk hP hD hS hl
    unfold BL_isBudget_461 at h
    refine lv_istore (lv' := [(4, .int s0), (0, .ref a0), (1, .int v1), (5, .long v5)]) hx hb dL_isBudget_461 hl (by decide) rfl (fun ls hl => ?_)
    refine lv_iconst (v := 0) hx hb dL_isBudget_463 (by decide) ?_
    refine lv_istore (lv' := [(11, .int 0), (4, .int s0), (0, .ref a0), (1, .int v1), (5, .long v5)]) hx hb dL_isBudget_464 hl (by decide) rfl (fun ls hl => ?_)
    refine lv_iconst (v := 0) hx hb dL_isBudget_466 (by decide) ?_
    refine lv_istore (lv' := [(12, .int 0), (11, .int 0), (4, .int s0), (0, .ref a0), (1, .int v1), (5, .long v5)]) hx hb dL_isBudget_467 hl (by decide) rfl (fun ls hl => ?_)
    refine LH_469 _ (fun v4 v11 Ob h H locs ls wb hBk hP hD hS hl => ?_) _ _ _ _ _ _ h _ _ _ _ hBk hP hD hS (lv_sub hl [3, 4, 2, 5, 1, 0] rfl)
    · skip
      exact BH_628  _ _ _ h _ _ _ _ hBk hP hD hS (lv_sub hl [0, 1, 2, 3] rfl)
  have BH_460 : ∀ (v5 : Int64) (Ob : OBk), BL_isBudget_460 K9 v1 v5 Ob → ∀ (H : Heap) (locs : List Loc) (ls : Array Slot) (wb : va_W), isBk k a0 Ob wb → va_P D vwCl wb H → va_D A wb → va_S A s.heap H locs → lv_has ls 17 [(0, .ref a0), (1, .int v1), (5, .long v5)] → W p l e rmL_isBudget s m args below meth c H locs 0 0 Q (F0 m 460 ls []) := by
    intro  v5 Ob h H locs ls wb hBk hP hD hS hl
    unfold BL_isBudget_460 at h
    refine lv_iconst (v := 0) hx hb dL_isBudget_460 (by decide) ?_
    exact BH_461  _ _ _ h _ _ _ _ hBk hP hD hS (lv_sub hl [0, 1, 2] rfl)
  have BH_434 : ∀ (v5 : Int64) (v9 : Int64) (s0 : Int64) (s1 : Int64) (Ob : OBk), BL_isBudget_434 K9 v1 v5 v9 s0 s1 Ob → ∀ (H : Heap) (locs : List Loc) (ls : Array Slot) (wb : va_W), isBk k a0 Ob wb → va_P D vwCl wb H → va_D A wb → va_S A s.heap H locs → lv_has ls 17 [(0, .ref a0), (1, .int v1), (5, .long v5), (9, .long v9)] → W p l e rmL_isBudget s m args below meth c H locs 0 0 Q (F0 m 434 ls [.long s1, .long s0]) := by
    intro  v5 v9 s0 s1 Ob h H locs ls wb hBk hP hD hS hl
    unfold BL_isBudget_434 at h
    refine W.lcmp hx hb dL_isBudget_434 ?_
    refine lv_if_ne (tgt := 460) hx hb dL_isBudget_435 (by decide) (fun c55 => ?_) (fun c55 => ?_)
    · replace h := pf_f c55 h
      exact BH_460  _ _ h _ _ _ _ hBk hP hD hS (lv_sub hl [0, 1, 2] rfl)
    · replace h := pf_t c55 h
      refine lv_lload hx hb dL_isBudget_438 (lv_at hl 3 rfl) ?_
      refine lv_ldc2 (v := -1) hx hb hown kc83 dL_isBudget_440 ?_
      refine W.lcmp hx hb dL_isBudget_443 ?_
      refine lv_if_lt (tgt := 460) hx hb dL_isBudget_444 (by decide) (fun c56 => ?_) (fun c56 => ?_)
      · replace h := pf_t c56 h
        exact BH_460  _ _ h _ _ _ _ hBk hP hD hS (lv_sub hl [0, 1, 2] rfl)
      · replace h := pf_f c56 h
        refine lv_lload hx hb dL_isBudget_447 (lv_at hl 3 rfl) ?_
        refine lv_ldc2 (v := 1000) hx hb hown kc119 dL_isBudget_449 ?_
        refine W.lcmp hx hb dL_isBudget_452 ?_
        refine lv_if_ge (tgt := 460) hx hb dL_isBudget_453 (by decide) (fun c57 => ?_) (fun c57 => ?_)
        · replace h := pf_t c57 h
          exact BH_460  _ _ h _ _ _ _ hBk hP hD hS (lv_sub hl [0, 1, 2] rfl)
        · replace h := pf_f c57 h
          refine lv_iconst (v := 1) hx hb dL_isBudget_456 (by decide) ?_
          refine lv_goto (tgt := 461) hx hb dL_isBudget_457 (by decide) ?_
          exact BH_461  _ _ _ h _ _ _ _ hBk hP hD hS (lv_sub hl [0, 1, 2] rfl)
  have BH_419 : ∀ (v5 : Int64) (v9 : Int64) (s0 : Int64) (Ob : OBk), BL_isBudget_419 K9 v1 v5 v9 s0 Ob → ∀ (H : Heap) (locs : List Loc) (ls : Array Slot) (wb : va_W), isBk k a0 Ob wb → va_P D vwCl wb H → va_D A wb → va_S A s.heap H locs → lv_has ls 17 [(0, .ref a0), (1, .int v1), (5, .long v5), (9, .long v9)] → W p l e rmL_isBudget s m args below meth c H locs 0 0 Q (F0 m 419 ls [.long s0]) := by
    intro  v5 v9 s0 Ob h H locs ls wb hBk hP hD hS hl
    unfold BL_isBudget_419 at h
    refine lv_ldc2 (v := -1) hx hb hown kc83 dL_isBudget_419 ?_
    refine lv_goto (tgt := 434) hx hb dL_isBudget_422 (by decide) ?_
    exact BH_434  _ _ _ _ _ h _ _ _ _ hBk hP hD hS (lv_sub hl [0, 1, 2, 3] rfl)
  have BH_380 : ∀ (v5 : Int64) (v7 : Int64) (s0 : Int32) (Ob : OBk), BL_isBudget_380 K9 v1 v5 v7 s0 Ob → ∀ (H : Heap) (locs : List Loc) (ls : Array Slot) (wb : va_W), isBk k a0 Ob wb → va_P D vwCl wb H → va_D A wb → va_S A s.heap H locs → lv_has ls 17 [(0, .ref a0), (1, .int v1), (5, .long v5), (7, .long v7)] → W p l e rmL_isBudget s m args below meth c H locs 0 0 Q (F0 m 380 ls [.int s0]) := by
    intro  v5 v7 s0 Ob h H locs ls wb hBk hP hD hS hl
    unfold BL_isBudget_380 at h
    refine lv_istore (lv' := [(4, .int s0), (0, .ref a0), (1, .int v1), (5, .long v5), (7, .long v7)]) hx hb dL_isBudget_380 hl (by decide) rfl (fun ls hl => ?_)
    refine lv_aload_n hx hb dL_isBudget_382 rfl (lv_at hl 1 rfl) ?_
    refine lv_iload_n hx hb dL_isBudget_383 rfl (lv_at hl 2 rfl) ?_
    refine lv_iconst (v := 3) hx hb dL_isBudget_384 (by decide) ?_
    have hPc := hP
    have hDc := hD
    have hFc := vs_free hDc hS hA
    obtain ⟨fs9, hb9⟩ := isBk_head hBk
    have hM9 := bk_budget l D k hBk h
    refine xc_lB (va_runV (mc := 0) (ms := 0) (As := [.int v1, .int 3]) (rest := []) ⟨hx, hb, hml, hown, hts⟩ (hM9 H.size) (cwV 2 hts gL_isBudget_X6_budget rfl rfl rfl (by decide +kernel) ⟨Nat.le_of_ble_eq_true rfl, Nat.le_of_ble_eq_true rfl⟩) ⟨pn_blind, va_recv hK hPc (ci := 6) (q0 := 0) rfl hb9, pn_start hPc hK hDc hNW⟩ rfl rfl hl.1 rfl (lv_room (Nat.le_of_ble_eq_true rfl)) dL_isBudget_385 ⟨Nat.le_of_ble_eq_true rfl, Nat.le_of_ble_eq_true rfl⟩) hS hFc (fun r28 Ob28 wb28 H1 locs h hBk9 hP1 hD1 hk1 hS => ?_)
    obtain ⟨hP, hD⟩ := vj_all hFc hP1 hD1
    clear hP1 hD1 hk1 hFc hPc hDc
    replace hBk := hBk9
    clear hBk9
    generalize H1 = H at hP hS ⊢
    replace hP : va_P D vwCl wb28 H := hP
    replace hD : va_D A wb28 := hD
    obtain ⟨wb, hwb⟩ : ∃ z, z = wb28 := ⟨_, rfl⟩
    subst hwb
    clear hM9
    refine lv_lstore (lv' := [(9, .long r28), (4, .int s0), (0, .ref a0), (1, .int v1), (5, .long v5), (7, .long v7)]) hx hb dL_isBudget_388 hl (by decide) rfl (fun ls hl => ?_)
    refine lv_iload hx hb dL_isBudget_390 (lv_at hl 1 rfl) ?_
    refine lv_if_eq (tgt := 460) hx hb dL_isBudget_392 (by decide) (fun c29 => ?_) (fun c29 => ?_)
    · replace h := pf_t c29 h
      exact BH_460  _ _ h _ _ _ _ hBk hP hD hS (lv_sub hl [2, 3, 4] rfl)
    · replace h := pf_f c29 h
      refine lv_aload_n hx hb dL_isBudget_395 rfl (lv_at hl 2 rfl) ?_
      refine lv_iload_n hx hb dL_isBudget_396 rfl (lv_at hl 3 rfl) ?_
      refine lv_iconst (v := 4) hx hb dL_isBudget_397 (by decide) ?_
      have hPc := hP
      have hDc := hD
      have hFc := vs_free hDc hS hA
      obtain ⟨fs9, hb9⟩ := isBk_head hBk
      have hM9 := bk_budget l D k hBk h
      refine xc_lB (va_runV (mc := 0) (ms := 0) (As := [.int v1, .int 4]) (rest := []) ⟨hx, hb, hml, hown, hts⟩ (hM9 H.size) (cwV 2 hts gL_isBudget_X6_budget rfl rfl rfl (by decide +kernel) ⟨Nat.le_of_ble_eq_true rfl, Nat.le_of_ble_eq_true rfl⟩) ⟨pn_blind, va_recv hK hPc (ci := 6) (q0 := 0) rfl hb9, pn_start hPc hK hDc hNW⟩ rfl rfl hl.1 rfl (lv_room (Nat.le_of_ble_eq_true rfl)) dL_isBudget_398 ⟨Nat.le_of_ble_eq_true rfl, Nat.le_of_ble_eq_true rfl⟩) hS hFc (fun r53 Ob53 wb53 H1 locs h hBk9 hP1 hD1 hk1 hS => ?_)
      obtain ⟨hP, hD⟩ := vj_all hFc hP1 hD1
      clear hP1 hD1 hk1 hFc hPc hDc
      replace hBk := hBk9
      clear hBk9
      generalize H1 = H at hP hS ⊢
      replace hP : va_P D vwCl wb53 H := hP
      replace hD : va_D A wb53 := hD
      obtain ⟨wb, hwb⟩ : ∃ z, z = wb53 := ⟨_, rfl⟩
      subst hwb
      clear hM9
      refine lv_lload hx hb dL_isBudget_401 (lv_at hl 5 rfl) ?_
      refine lv_ldc2 (v := -1) hx hb hown kc83 dL_isBudget_403 ?_
      refine W.lcmp hx hb dL_isBudget_406 ?_
      refine lv_if_eq (tgt := 419) hx hb dL_isBudget_407 (by decide) (fun c54 => ?_) (fun c54 => ?_)
      · replace h := pf_t c54 h
        exact BH_419  _ _ _ _ h _ _ _ _ hBk hP hD hS (lv_sub hl [2, 3, 4, 0] rfl)
      · replace h := pf_f c54 h
        refine lv_lload hx hb dL_isBudget_410 (lv_at hl 0 rfl) ?_
        refine lv_ldc2 (v := -1) hx hb hown kc83 dL_isBudget_412 ?_
        refine W.lcmp hx hb dL_isBudget_415 ?_
        refine lv_if_ne (tgt := 425) hx hb dL_isBudget_416 (by decide) (fun c58 => ?_) (fun c58 => ?_)
        · replace h := pf_f c58 h
          refine lv_lload hx hb dL_isBudget_425 (lv_at hl 5 rfl) ?_
          refine lv_lload hx hb dL_isBudget_427 (lv_at hl 0 rfl) ?_
          refine lv_lmul hx hb dL_isBudget_429 ?_
          refine lv_ldc2 (v := 100) hx hb hown kc117 dL_isBudget_430 ?_
          refine lv_ldiv hx hb dL_isBudget_433 (by decide) ?_
          exact BH_434  _ _ _ _ _ h _ _ _ _ hBk hP hD hS (lv_sub hl [2, 3, 4, 0] rfl)
        · replace h := pf_t c58 h
          exact BH_419  _ _ _ _ h _ _ _ _ hBk hP hD hS (lv_sub hl [2, 3, 4, 0] rfl)
  have BH_379 : ∀ (v5 : Int64) (v7 : Int64) (Ob : OBk), BL_isBudget_379 K9 v1 v5 v7 Ob → ∀ (H : Heap) (locs : List Loc) (ls : Array Slot) (wb : va_W), isBk k a0 Ob wb → va_P D vwCl wb H → va_D A wb → va_S A s.heap H locs → lv_has ls 17 [(0, .ref a0), (1, .int v1), (5, .long v5), (7, .long v7)] → W p l e rmL_isBudget s m args below meth c H locs 0 0 Q (F0 m 379 ls []) := by
    intro  v5 v7 Ob h H locs ls wb hBk hP hD hS hl
    unfold BL_isBudget_379 at h
    refine lv_iconst (v := 0) hx hb dL_isBudget_379 (by decide) ?_
    exact BH_380  _ _ _ _ h _ _ _ _ hBk hP hD hS (lv_sub hl [0, 1, 2, 3] rfl)
  have BH_375 : ∀ (v5 : Int64) (v7 : Int64) (Ob : OBk), BL_isBudget_375 K9 v1 v5 v7 Ob → ∀ (H : Heap) (locs : List Loc) (ls : Array Slot) (wb : va_W), isBk k a0 Ob wb → va_P D vwCl wb H → va_D A wb → va_S A s.heap H locs → lv_has ls 17 [(0, .ref a0), (1, .int v1), (5, .long v5), (7, .long v7)] → W p l e rmL_isBudget s m args below meth c H locs 0 0 Q (F0 m 375 ls []) := by
    intro  v5 v7 Ob h H locs ls wb hBk hP hD hS hl
    unfold BL_isBudget_375 at h
    refine lv_iconst (v := 1) hx hb dL_isBudget_375 (by decide) ?_
    refine lv_goto (tgt := 380) hx hb dL_isBudget_376 (by decide) ?_
    exact BH_380  _ _ _ _ h _ _ _ _ hBk hP hD hS (lv_sub hl [0, 1, 2, 3] rfl)
  have BH_286 : ∀ (v2 : Int64) (v4 : Int32) (Ob : OBk), BL_isBudget_286 K9 v1 v2 v4 Ob → ∀ (H : Heap) (locs : List Loc) (ls : Array Slot) (wb : va_W), isBk k a0 Ob wb → va_P D vwCl wb H → va_D A wb → va_S A s.heap H locs → lv_has ls 17 [(0, .ref a0), (1, .int v1), (2, .long v2), (4, .int v4)] → W p l e rmL_isBudget s m args below meth c H locs 0 0 Q (F0 m 286 ls []) := by
    intro  v2 v4 Ob h H locs ls wb hBk hP hD hS hl
    unfold BL_isBudget_286 at h
    refine lv_aload_n hx hb dL_isBudget_286 rfl (lv_at hl 0 rfl) ?_
    refine lv_iload_n hx hb dL_isBudget_287 rfl (lv_at hl 1 rfl) ?_
    refine lv_iconst (v := 0) hx hb dL_isBudget_288 (by decide) ?_
    have hPc := hP
    have hDc := hD
    have hFc := vs_free hDc hS hA
    obtain ⟨fs9, hb9⟩ := isBk_head hBk
    have hM9 := bk_budget l D k hBk h
    refine xc_lB (va_runV (mc := 0) (ms := 0) (As := [.int v1, .int 0]) (rest := []) ⟨hx, hb, hml, hown, hts⟩ (hM9 H.size) (cwV 2 hts gL_isBudget_X6_budget rfl rfl rfl (by decide +kernel) ⟨Nat.le_of_ble_eq_true rfl, Nat.le_of_ble_eq_true rfl⟩) ⟨pn_blind, va_recv hK hPc (ci := 6) (q0 := 0) rfl hb9, pn_start hPc hK hDc hNW⟩ rfl rfl hl.1 rfl (lv_room (Nat.le_of_ble_eq_true rfl)) dL_isBudget_289 ⟨Nat.le_of_ble_eq_true rfl, Nat.le_of_ble_eq_true rfl⟩) hS hFc (fun r25 Ob25 wb25 H1 locs h hBk9 hP1 hD1 hk1 hS => ?_)
    obtain ⟨hP, hD⟩ := vj_all hFc hP1 hD1
    clear hP1 hD1 hk1 hFc hPc hDc
    replace hBk := hBk9
    clear hBk9
    generalize H1 = H at hP hS ⊢
    replace hP : va_P D vwCl wb25 H := hP
    replace hD : va_D A wb25 := hD
    obtain ⟨wb, hwb⟩ : ∃ z, z = wb25 := ⟨_, rfl⟩
    subst hwb
    clear hM9
    refine lv_lstore (lv' := [(5, .long r25), (0, .ref a0), (1, .int v1), (2, .long v2), (4, .int v4)]) hx hb dL_isBudget_292 hl (by decide) rfl (fun ls hl => ?_)
    refine lv_aload_n hx hb dL_isBudget_294 rfl (lv_at hl 1 rfl) ?_
    refine lv_iload_n hx hb dL_isBudget_295 rfl (lv_at hl 2 rfl) ?_
    refine lv_iconst (v := 1) hx hb dL_isBudget_296 (by decide) ?_
    have hPc := hP
    have hDc := hD
    have hFc := vs_free hDc hS hA
    obtain ⟨fs9, hb9⟩ := isBk_head hBk
    have hM9 := bk_budget l D k hBk h
    refine xc_lB (va_runV (mc := 0) (ms := 0) (As := [.int v1, .int 1]) (rest := []) ⟨hx, hb, hml, hown, hts⟩ (hM9 H.size) (cwV 2 hts gL_isBudget_X6_budget rfl rfl rfl (by decide +kernel) ⟨Nat.le_of_ble_eq_true rfl, Nat.le_of_ble_eq_true rfl⟩) ⟨pn_blind, va_recv hK hPc (ci := 6) (q0 := 0) rfl hb9, pn_start hPc hK hDc hNW⟩ rfl rfl hl.1 rfl (lv_room (Nat.le_of_ble_eq_true rfl)) dL_isBudget_297 ⟨Nat.le_of_ble_eq_true rfl, Nat.le_of_ble_eq_true rfl⟩) hS hFc (fun r26 Ob26 wb26 H1 locs h hBk9 hP1 hD1 hk1 hS => ?_)
    obtain ⟨hP, hD⟩ := vj_all hFc hP1 hD1
    clear hP1 hD1 hk1 hFc hPc hDc
    replace hBk := hBk9
    clear hBk9
    generalize H1 = H at hP hS ⊢
    replace hP : va_P D vwCl wb26 H := hP
    replace hD : va_D A wb26 := hD
    obtain ⟨wb, hwb⟩ : ∃ z, z = wb26 := ⟨_, rfl⟩
    subst hwb
    clear hM9
    refine lv_lstore (lv' := [(7, .long r26), (5, .long r25), (0, .ref a0), (1, .int v1), (2, .long v2), (4, .int v4)]) hx hb dL_isBudget_300 hl (by decide) rfl (fun ls hl => ?_)
    refine lv_iload hx hb dL_isBudget_302 (lv_at hl 5 rfl) ?_
    refine lv_if_eq (tgt := 379) hx hb dL_isBudget_304 (by decide) (fun c27 => ?_) (fun c27 => ?_)
    · replace h := pf_t c27 h
      exact BH_379  _ _ _ h _ _ _ _ hBk hP hD hS (lv_sub hl [2, 3, 1, 0] rfl)
    · replace h := pf_f c27 h
      refine lv_lload_n hx hb dL_isBudget_307 rfl (lv_at hl 4 rfl) ?_
      refine lv_lload hx hb dL_isBudget_308 (lv_at hl 1 rfl) ?_
      refine W.lcmp hx hb dL_isBudget_310 ?_
      refine lv_if_ne (tgt := 379) hx hb dL_isBudget_311 (by decide) (fun c59 => ?_) (fun c59 => ?_)
      · replace h := pf_f c59 h
        exact BH_379  _ _ _ h _ _ _ _ hBk hP hD hS (lv_sub hl [2, 3, 1, 0] rfl)
      · replace h := pf_t c59 h
        refine lv_lload hx hb dL_isBudget_314 (lv_at hl 1 rfl) ?_
        refine lv_lconst (v := 0) hx hb dL_isBudget_316 (by decide) ?_
        refine W.lcmp hx hb dL_isBudget_317 ?_
        refine lv_if_ge (tgt := 333) hx hb dL_isBudget_318 (by decide) (fun c60 => ?_) (fun c60 => ?_)
        · replace h := pf_t c60 h
          refine lv_lload hx hb dL_isBudget_333 (lv_at hl 0 rfl) ?_
          refine lv_lconst (v := 0) hx hb dL_isBudget_335 (by decide) ?_
          refine W.lcmp hx hb dL_isBudget_336 ?_
          refine lv_if_lt (tgt := 379) hx hb dL_isBudget_337 (by decide) (fun c61 => ?_) (fun c61 => ?_)
          · replace h := pf_t c61 h
            exact BH_379  _ _ _ h _ _ _ _ hBk hP hD hS (lv_sub hl [2, 3, 1, 0] rfl)
          · replace h := pf_f c61 h
            refine lv_lload hx hb dL_isBudget_340 (lv_at hl 0 rfl) ?_
            refine lv_lload hx hb dL_isBudget_342 (lv_at hl 0 rfl) ?_
            refine lv_lmul hx hb dL_isBudget_344 ?_
            refine lv_lload hx hb dL_isBudget_345 (lv_at hl 1 rfl) ?_
            refine W.lcmp hx hb dL_isBudget_347 ?_
            refine lv_if_gt (tgt := 379) hx hb dL_isBudget_348 (by decide) (fun c62 => ?_) (fun c62 => ?_)
            · replace h := pf_t c62 h
              exact BH_379  _ _ _ h _ _ _ _ hBk hP hD hS (lv_sub hl [2, 3, 1, 0] rfl)
            · replace h := pf_f c62 h
              refine lv_lload hx hb dL_isBudget_351 (lv_at hl 0 rfl) ?_
              refine lv_ldc2 (v := 3000000000) hx hb hown kc115 dL_isBudget_353 ?_
              refine W.lcmp hx hb dL_isBudget_356 ?_
              refine lv_if_gt (tgt := 375) hx hb dL_isBudget_357 (by decide) (fun c63 => ?_) (fun c63 => ?_)
              · replace h := pf_t c63 h
                exact BH_375  _ _ _ h _ _ _ _ hBk hP hD hS (lv_sub hl [2, 3, 1, 0] rfl)
              · replace h := pf_f c63 h
                refine lv_lload hx hb dL_isBudget_360 (lv_at hl 0 rfl) ?_
                refine lv_lconst (v := 1) hx hb dL_isBudget_362 (by decide) ?_
                refine lv_ladd hx hb dL_isBudget_363 ?_
                refine lv_lload hx hb dL_isBudget_364 (lv_at hl 0 rfl) ?_
                refine lv_lconst (v := 1) hx hb dL_isBudget_366 (by decide) ?_
                refine lv_ladd hx hb dL_isBudget_367 ?_
                refine lv_lmul hx hb dL_isBudget_368 ?_
                refine lv_lload hx hb dL_isBudget_369 (lv_at hl 1 rfl) ?_
                refine W.lcmp hx hb dL_isBudget_371 ?_
                refine lv_if_le (tgt := 379) hx hb dL_isBudget_372 (by decide) (fun c64 => ?_) (fun c64 => ?_)
                · replace h := pf_t c64 h
                  exact BH_379  _ _ _ h _ _ _ _ hBk hP hD hS (lv_sub hl [2, 3, 1, 0] rfl)
                · replace h := pf_f c64 h
                  exact BH_375  _ _ _ h _ _ _ _ hBk hP hD hS (lv_sub hl [2, 3, 1, 0] rfl)
        · replace h := pf_f c60 h
          refine lv_lload hx hb dL_isBudget_321 (lv_at hl 0 rfl) ?_
          refine lv_ldc2 (v := -1) hx hb hown kc83 dL_isBudget_323 ?_
          refine W.lcmp hx hb dL_isBudget_326 ?_
          refine lv_if_ne (tgt := 379) hx hb dL_isBudget_327 (by decide) (fun c65 => ?_) (fun c65 => ?_)
          · replace h := pf_f c65 h
            exact BH_379  _ _ _ h _ _ _ _ hBk hP hD hS (lv_sub hl [2, 3, 1, 0] rfl)
          · replace h := pf_t c65 h
            refine lv_goto (tgt := 375) hx hb dL_isBudget_330 (by decide) ?_
            exact BH_375  _ _ _ h _ _ _ _ hBk hP hD hS (lv_sub hl [2, 3, 1, 0] rfl)
  suffices main : ∀ (H : Heap) (locs : List Loc) (ls : Array Slot), va_P D vwCl wb H → va_D A wb → va_S A s.heap H locs → lv_has ls 17 [(0, .ref a0), (1, .int v1)] → W p l e rmL_isBudget s m args below meth c H locs 0 0 Q (F0 m 0 ls []) from main _ _ _ hP hD hS hl
  clear hP hD hS hl ls hAe
  intro H locs ls hP hD hS hl
  refine lv_lconst (v := 0) hx hb dL_isBudget_0 (by decide) ?_
  refine lv_lstore_n (lv' := [(2, .long 0), (0, .ref a0), (1, .int v1)]) hx hb dL_isBudget_1 rfl hl (by decide) rfl (fun ls hl => ?_)
  refine lv_iconst (v := 1) hx hb dL_isBudget_2 (by decide) ?_
  refine lv_istore (lv' := [(4, .int 1), (2, .long 0), (0, .ref a0), (1, .int v1)]) hx hb dL_isBudget_3 hl (by decide) rfl (fun ls hl => ?_)
  refine lv_iconst (v := 0) hx hb dL_isBudget_5 (by decide) ?_
  refine lv_istore (lv' := [(5, .int 0), (4, .int 1), (2, .long 0), (0, .ref a0), (1, .int v1)]) hx hb dL_isBudget_6 hl (by decide) rfl (fun ls hl => ?_)
  refine LH_8 _ (fun v2 v4 Ob h H locs ls wb hBk hP hD hS hl => ?_) _ _ _ _ _ h _ _ _ _ hBk hP hD hS (lv_sub hl [3, 4, 2, 1, 0] rfl)
  · skip
    refine lv_iconst (v := 0) hx hb dL_isBudget_98 (by decide) ?_
    refine lv_istore (lv' := [(5, .int 0), (0, .ref a0), (1, .int v1), (2, .long v2), (4, .int v4)]) hx hb dL_isBudget_99 hl (by decide) rfl (fun ls hl => ?_)
    refine LH_101 _ (fun v2 v4 Ob h H locs ls wb hBk hP hD hS hl => ?_) _ _ _ _ _ h _ _ _ _ hBk hP hD hS (lv_sub hl [1, 2, 3, 4, 0] rfl)
    · skip
      exact BH_286  _ _ _ h _ _ _ _ hBk hP hD hS (lv_sub hl [0, 1, 2, 3] rfl)
