def BL_isRead_110 (K9 : Int32 → OBk → (Nat → Int32) → Prop) (v2 : Int32) (v3 : Int32) (K : Int32 → Int32 → Int32 → OBk → (Nat → Int32) → Prop) (E119 : Int32 → OBk → (Nat → Int32) → Prop) (v4 : Int32) (v6 : Int32) (Ob : OBk) (dA : Nat → Int32) : Prop := K v4 0 (v6 + 1) Ob dA
def BL_isRead_75 (K9 : Int32 → OBk → (Nat → Int32) → Prop) (v2 : Int32) (v3 : Int32) (K : Int32 → Int32 → Int32 → OBk → (Nat → Int32) → Prop) (E119 : Int32 → OBk → (Nat → Int32) → Prop) (v4 : Int32) (v6 : Int32) (Ob : OBk) (dA : Nat → Int32) : Prop := (¬ (v6 + 2) = 0 ∧ ((¬ (v6 + 1) = 0 ∧ ((∃ r7, fL_part ((v2 / (v6 + 2)) + (7 * v6)) ((v3 / (v6 + 1)) + v6) = some r7 ∧ (cb_type r7 Ob (fun r8 Ob8 => (if r8 ≤ 0 then BL_isRead_110 K9 v2 v3 (K) E119 v4 v6 Ob8 dA else K v4 1 (v6 + 1) Ob8 dA))))))))
def BL_isRead_69 (K9 : Int32 → OBk → (Nat → Int32) → Prop) (v2 : Int32) (v3 : Int32) (K : Int32 → Int32 → Int32 → OBk → (Nat → Int32) → Prop) (E119 : Int32 → OBk → (Nat → Int32) → Prop) (v4 : Int32) (v6 : Int32) (s1 : Int64) (Ob : OBk) (dA : Nat → Int32) : Prop := cb_type s1 Ob (fun r12 Ob12 => (if r12 ≤ 0 then BL_isRead_110 K9 v2 v3 (K) E119 v4 v6 Ob12 dA else BL_isRead_75 K9 v2 v3 (K) E119 v4 v6 Ob12 dA))
def LL_isRead_13 (K9 : Int32 → OBk → (Nat → Int32) → Prop) (v2 : Int32) (v3 : Int32) (E119 : Int32 → OBk → (Nat → Int32) → Prop) : Nat → Int32 → Int32 → Int32 → OBk → (Nat → Int32) → Prop
  | 0, _, _, _, _, _ => False
  | fuel + 1, v4, v5, v6, Ob, dA => (if v4 ≤ v6 then E119 v5 Ob dA else (if v5 = 0 then E119 v5 Ob dA else (¬ (v6 + 1) = 0 ∧ ((if v6 = 0 then BL_isRead_75 K9 v2 v3 (LL_isRead_13 K9 v2 v3 E119 fuel) E119 v4 v6 Ob dA else (if (jrem ((v2 / 5) / (v6 + 1)) 3) = 0 then BL_isRead_69 K9 v2 v3 (LL_isRead_13 K9 v2 v3 E119 fuel) E119 v4 v6 42 Ob dA else (if (jrem ((v2 / 5) / (v6 + 1)) 3) = 1 then BL_isRead_69 K9 v2 v3 (LL_isRead_13 K9 v2 v3 E119 fuel) E119 v4 v6 43 Ob dA else BL_isRead_69 K9 v2 v3 (LL_isRead_13 K9 v2 v3 E119 fuel) E119 v4 v6 45 Ob dA)))))))
def BL_isRead_184 (K9 : Int32 → OBk → (Nat → Int32) → Prop) (v2 : Int32) (v3 : Int32)  (v5 : Int32) (v6 : Int32) (v7 : Int32) (v8 : Int32) (s1 : Int32) (s2 : Int32) (s3 : Int32) (Ob : OBk) (dA : Nat → Int32) : Prop := (vp_in s1 3 ∧ (cb_value v7 Ob (fun r23 Ob23 => (if v5 = 0 then (narrow .boolean (.int 0) = .int 0 ∧ K9 0 Ob23 (upd dA (s1.toNatClampNeg) (s2 + s3))) else (if v6 ≤ 0 then (narrow .boolean (.int 0) = .int 0 ∧ K9 0 Ob23 (upd dA (s1.toNatClampNeg) (s2 + s3))) else (if 60 < v6 then (narrow .boolean (.int 0) = .int 0 ∧ K9 0 Ob23 (upd dA (s1.toNatClampNeg) (s2 + s3))) else (if v8 ≤ 0 then (narrow .boolean (.int 0) = .int 0 ∧ K9 0 Ob23 (upd dA (s1.toNatClampNeg) (s2 + s3))) else (if v6 < v8 then (narrow .boolean (.int 0) = .int 0 ∧ K9 0 Ob23 (upd dA (s1.toNatClampNeg) (s2 + s3))) else cb_type 0 Ob23 (fun r29 Ob29 => (if r29 = 0 then cb_type 42 Ob29 (fun r31 Ob31 => (if r31 = 1 then cb_model v7 Ob31 (fun r33 Ob33 => (if r33 = ((-1)) then cb_value v7 Ob33 (fun r35 Ob35 => (if (lg_cmp r35 r23) = 0 then (vp_in 0 3 ∧ ((if ((upd dA (s1.toNatClampNeg) (s2 + s3)) (0 : Int32).toNatClampNeg) = 8 then (narrow .boolean (.int 1) = .int 1 ∧ K9 1 Ob35 (upd dA (s1.toNatClampNeg) (s2 + s3))) else (vp_in 0 3 ∧ (cb_model ((upd dA (s1.toNatClampNeg) (s2 + s3)) (0 : Int32).toNatClampNeg) Ob35 (fun r40 Ob40 => (if r40 = ((-1)) then (narrow .boolean (.int 1) = .int 1 ∧ K9 1 Ob40 (upd dA (s1.toNatClampNeg) (s2 + s3))) else (narrow .boolean (.int 0) = .int 0 ∧ K9 0 Ob40 (upd dA (s1.toNatClampNeg) (s2 + s3)))))))))) else (narrow .boolean (.int 0) = .int 0 ∧ K9 0 Ob35 (upd dA (s1.toNatClampNeg) (s2 + s3))))) else (narrow .boolean (.int 0) = .int 0 ∧ K9 0 Ob33 (upd dA (s1.toNatClampNeg) (s2 + s3))))) else (narrow .boolean (.int 0) = .int 0 ∧ K9 0 Ob31 (upd dA (s1.toNatClampNeg) (s2 + s3))))) else (narrow .boolean (.int 0) = .int 0 ∧ K9 0 Ob29 (upd dA (s1.toNatClampNeg) (s2 + s3)))))))))))))
def BL_isRead_157 (K9 : Int32 → OBk → (Nat → Int32) → Prop) (v2 : Int32) (v3 : Int32)  (v5 : Int32) (v6 : Int32) (s0 : Int32) (Ob : OBk) (dA : Nat → Int32) : Prop := cb_model s0 Ob (fun r18 Ob18 => (vp_in 0 3 ∧ ((vp_in 0 3 ∧ ((if s0 = (dA (0 : Int32).toNatClampNeg) then BL_isRead_184 K9 v2 v3 v5 v6 s0 r18 0 (dA (0 : Int32).toNatClampNeg) 1 Ob18 dA else BL_isRead_184 K9 v2 v3 v5 v6 s0 r18 0 (dA (0 : Int32).toNatClampNeg) 0 Ob18 dA))))))
def BL_isRead_146 (K9 : Int32 → OBk → (Nat → Int32) → Prop) (v2 : Int32) (v3 : Int32)  (v5 : Int32) (v6 : Int32) (Ob : OBk) (dA : Nat → Int32) : Prop := (vp_in 0 3 ∧ (BL_isRead_157 K9 v2 v3 v5 v6 (dA (0 : Int32).toNatClampNeg) Ob dA))
def BL_isRead_152 (K9 : Int32 → OBk → (Nat → Int32) → Prop) (v2 : Int32) (v3 : Int32)  (v5 : Int32) (v6 : Int32) (Ob : OBk) (dA : Nat → Int32) : Prop := (vp_in 0 3 ∧ ((¬ (dA (0 : Int32).toNatClampNeg) = 0 ∧ (BL_isRead_157 K9 v2 v3 v5 v6 (jrem v3 (dA (0 : Int32).toNatClampNeg)) Ob dA))))
def BL_isRead_119 (K9 : Int32 → OBk → (Nat → Int32) → Prop) (v2 : Int32) (v3 : Int32)  (v5 : Int32) (Ob : OBk) (dA : Nat → Int32) : Prop := cb_type 0 Ob (fun r14 Ob14 => (vp_in 0 3 ∧ ((if (dA (0 : Int32).toNatClampNeg) = 0 then BL_isRead_146 K9 v2 v3 v5 r14 Ob14 dA else (vp_in 0 3 ∧ ((if 8 ≤ (dA (0 : Int32).toNatClampNeg) then BL_isRead_152 K9 v2 v3 v5 r14 Ob14 dA else (if (jrem v3 3) ≤ 0 then BL_isRead_152 K9 v2 v3 v5 r14 Ob14 dA else BL_isRead_146 K9 v2 v3 v5 r14 Ob14 dA))))))))
def wL_isRead (v2 : Int32) (v3 : Int32) (Ob : OBk) (dA : Nat → Int32) (K9 : Int32 → OBk → (Nat → Int32) → Prop) : Prop := LL_isRead_13 K9 v2 v3 (fun (v5 : Int32) (Ob : OBk) (dA : Nat → Int32) => BL_isRead_119 K9 v2 v3 v5 Ob dA) 1000 (1 + (jrem v2 5)) 1 0 Ob dA
abbrev rmL_isRead : Room := { frames := 60, cells := 24, slots := 1287, locals := 1974 }
set_option maxHeartbeats 40000000 in
set_option maxRecDepth 100000 in
theorem met_L_isRead (l : Launch) (hst : l.stackTraces = false) (D : va_G) (k : Nat → ClassId) (a0 : Nat) (qd : Nat) (v2 : Int32) (v3 : Int32) (Ob : OBk) (dA : Nat → Int32) (K9 : Int32 → OBk → (Nat → Int32) → Prop) (h : wL_isRead v2 v3 Ob dA K9) (wb : va_W) (hBk : isBk k a0 Ob wb) (sz : Nat) : Met l yL_isRead wsL_isRead rmL_isRead (va_Pc [.ref a0, .ref qd, .int v2, .int v3] (PreZ D k ([(qd, .inl (k 0, 3, .inl dA))] ++ wb) sz)) (va_Qi (pD k a0 K9) (fun u t => PostW D k (va_A ([(qd, .inl (k 0, 3, .inl dA))] ++ wb) sz) ([(qd, .inl (k 0, 3, .inl u.2.2))] ++ u.2.1) t) (va_A ([(qd, .inl (k 0, 3, .inl dA))] ++ wb) sz)) 24 1287 (va_A ([(qd, .inl (k 0, 3, .inl dA))] ++ wb) sz) := by
  refine Met.ofW (cc := cL_isRead) (maxL := 11) (ret := (some .boolean)) (by decide) rfl ?_
  intro p e s m args below meth c s₁ B hml hv
  obtain ⟨hav, ⟨⟨hsz, hP, hK, hD0⟩, hXP⟩, hNW⟩ := hv
  have hx := B.exec
  have hb := B.bytes
  have hr := B.returns
  have hts := atoms_spec (ws := wsL_isRead) B.pre
  have hown : s.vm.findClass RL = some m.cls := findClass_of_methodNamed B.named
  have hlocks := B.notSynchronized
  subst hsz
  have hD := hD0.self (sz := s.heap.size)
  clear hD0
  obtain ⟨A, hAe⟩ : ∃ A, va_A ([(qd, .inl (k 0, 3, .inl dA))] ++ wb) s.heap.size = A := ⟨_, rfl⟩
  rw [hAe] at hD hXP ⊢
  have hA : ∀ q : Nat, s.heap.size ≤ q → A q := fun q h => by rw [← hAe]; exact Or.inr h
  have hS : va_S A s.heap s.heap [] := va_S.rf
  have hl := lv_entry ([.ref a0, .ref qd, .int v2, .int v3]) (n := 11) (Nat.le_of_ble_eq_true rfl)
  rw [show entryFrame m args 11 = entryFrame m ([.ref a0, .ref qd, .int v2, .int v3] : List Value).toArray 11 from by rw [hav], lg_entry_eq]
  generalize (lg_sl ([.ref a0, .ref qd, .int v2, .int v3]) ++ List.replicate (11 - (lg_sl ([.ref a0, .ref qd, .int v2, .int v3])).length) Slot.unset).toArray = ls at hl ⊢
  replace hl : lv_has ls 11 [(0, .ref a0), (1, .ref qd), (2, .int v2), (3, .int v3)] := hl
  have kc35 := hts (.constantLong RL 35 (45)) (by decide +kernel)
  have kc85 := hts (.constantLong RL 85 (42)) (by decide +kernel)
  have kc87 := hts (.constantLong RL 87 (43)) (by decide +kernel)
  refine w_q (fun Q hQ => ?_)
  unfold wL_isRead at h
  show W p l e rmL_isRead s m args below meth c s.heap [] 0 0 Q (F0 m 0 ls [])
  have BH_110 : ∀ (K : Int32 → Int32 → Int32 → OBk → (Nat → Int32) → Prop) (hKK : ∀ (v4 : Int32) (v5 : Int32) (v6 : Int32) (Ob : OBk) (dA : Nat → Int32), K v4 v5 v6 Ob dA → ∀ (H : Heap) (locs : List Loc) (ls : Array Slot) (wb : va_W), isBk k a0 Ob wb → va_P D vwCl ([(qd, .inl (k 0, 3, .inl dA))] ++ wb) H → va_D A ([(qd, .inl (k 0, 3, .inl dA))] ++ wb) → va_S A s.heap H locs → lv_has ls 11 [(0, .ref a0), (1, .ref qd), (2, .int v2), (3, .int v3), (4, .int v4), (5, .int v5), (6, .int v6)] → W p l e rmL_isRead s m args below meth c H locs 0 0 Q (F0 m 13 ls [])) (E119 : Int32 → OBk → (Nat → Int32) → Prop) (hE119 : ∀ (v5 : Int32) (Ob : OBk) (dA : Nat → Int32), E119 v5 Ob dA → ∀ (H : Heap) (locs : List Loc) (ls : Array Slot) (wb : va_W), isBk k a0 Ob wb → va_P D vwCl ([(qd, .inl (k 0, 3, .inl dA))] ++ wb) H → va_D A ([(qd, .inl (k 0, 3, .inl dA))] ++ wb) → va_S A s.heap H locs → lv_has ls 11 [(0, .ref a0), (1, .ref qd), (3, .int v3), (5, .int v5)] → W p l e rmL_isRead s m args below meth c H locs 0 0 Q (F0 m 119 ls [])) (v4 : Int32) (v6 : Int32) (Ob : OBk) (dA : Nat → Int32), BL_isRead_110 K9 v2 v3 K E119 v4 v6 Ob dA → ∀ (H : Heap) (locs : List Loc) (ls : Array Slot) (wb : va_W), isBk k a0 Ob wb → va_P D vwCl ([(qd, .inl (k 0, 3, .inl dA))] ++ wb) H → va_D A ([(qd, .inl (k 0, 3, .inl dA))] ++ wb) → va_S A s.heap H locs → lv_has ls 11 [(0, .ref a0), (1, .ref qd), (2, .int v2), (3, .int v3), (4, .int v4), (6, .int v6)] → W p l e rmL_isRead s m args below meth c H locs 0 0 Q (F0 m 110 ls []) := by
    intro K hKK E119 hE119 v4 v6 Ob dA h H locs ls wb hBk hP hD hS hl
    unfold BL_isRead_110 at h
    refine lv_iconst (v := 0) hx hb dL_isRead_110 (by decide) ?_
    refine lv_istore (lv' := [(5, .int 0), (0, .ref a0), (1, .ref qd), (2, .int v2), (3, .int v3), (4, .int v4), (6, .int v6)]) hx hb dL_isRead_111 hl (by decide) rfl (fun ls hl => ?_)
    refine lv_iinc (v := v6 + 1) (lv' := [(6, .int (v6 + 1)), (5, .int 0), (0, .ref a0), (1, .ref qd), (2, .int v2), (3, .int v3), (4, .int v4)]) hx hb dL_isRead_113 hl (k := 6) rfl rfl (by decide) rfl (fun ls hl => ?_)
    refine lv_goto (tgt := 13) hx hb dL_isRead_116 (by decide) ?_
    exact hKK _ _ _ _ _ h _ _ _ _ hBk hP hD hS (lv_sub hl [2, 3, 4, 5, 6, 1, 0] rfl)
  have BH_75 : ∀ (K : Int32 → Int32 → Int32 → OBk → (Nat → Int32) → Prop) (hKK : ∀ (v4 : Int32) (v5 : Int32) (v6 : Int32) (Ob : OBk) (dA : Nat → Int32), K v4 v5 v6 Ob dA → ∀ (H : Heap) (locs : List Loc) (ls : Array Slot) (wb : va_W), isBk k a0 Ob wb → va_P D vwCl ([(qd, .inl (k 0, 3, .inl dA))] ++ wb) H → va_D A ([(qd, .inl (k 0, 3, .inl dA))] ++ wb) → va_S A s.heap H locs → lv_has ls 11 [(0, .ref a0), (1, .ref qd), (2, .int v2), (3, .int v3), (4, .int v4), (5, .int v5), (6, .int v6)] → W p l e rmL_isRead s m args below meth c H locs 0 0 Q (F0 m 13 ls [])) (E119 : Int32 → OBk → (Nat → Int32) → Prop) (hE119 : ∀ (v5 : Int32) (Ob : OBk) (dA : Nat → Int32), E119 v5 Ob dA → ∀ (H : Heap) (locs : List Loc) (ls : Array Slot) (wb : va_W), isBk k a0 Ob wb → va_P D vwCl ([(qd, .inl (k 0, 3, .inl dA))] ++ wb) H → va_D A ([(qd, .inl (k 0, 3, .inl dA))] ++ wb) → va_S A s.heap H locs → lv_has ls 11 [(0, .ref a0), (1, .ref qd), (3, .int v3), (5, .int v5)] → W p l e rmL_isRead s m args below meth c H locs 0 0 Q (F0 m 119 ls [])) (v4 : Int32) (v6 : Int32) (Ob : OBk) (dA : Nat → Int32), BL_isRead_75 K9 v2 v3 K E119 v4 v6 Ob dA → ∀ (H : Heap) (locs : List Loc) (ls : Array Slot) (wb : va_W), isBk k a0 Ob wb → va_P D vwCl ([(qd, .inl (k 0, 3, .inl dA))] ++ wb) H → va_D A ([(qd, .inl (k 0, 3, .inl dA))] ++ wb) → va_S A s.heap H locs → lv_has ls 11 [(0, .ref a0), (1, .ref qd), (2, .int v2), (3, .int v3), (4, .int v4), (6, .int v6)] → W p l e rmL_isRead s m args below meth c H locs 0 0 Q (F0 m 75 ls []) := by
    intro K hKK E119 hE119 v4 v6 Ob dA h H locs ls wb hBk hP hD hS hl
    unfold BL_isRead_75 at h
    refine lv_aload_n hx hb dL_isRead_75 rfl (lv_at hl 0 rfl) ?_
    refine lv_iload_n hx hb dL_isRead_76 rfl (lv_at hl 2 rfl) ?_
    refine lv_iload hx hb dL_isRead_77 (lv_at hl 5 rfl) ?_
    refine lv_iconst (v := 2) hx hb dL_isRead_79 (by decide) ?_
    refine lv_iadd hx hb dL_isRead_80 ?_
    obtain ⟨hz5, h⟩ := h
    refine lv_idiv hx hb dL_isRead_81 hz5 ?_
    refine lv_bipush (v := 7) hx hb dL_isRead_82 (by decide) ?_
    refine lv_iload hx hb dL_isRead_84 (lv_at hl 5 rfl) ?_
    refine lv_imul hx hb dL_isRead_86 ?_
    refine lv_iadd hx hb dL_isRead_87 ?_
    refine lv_iload_n hx hb dL_isRead_88 rfl (lv_at hl 3 rfl) ?_
    refine lv_iload hx hb dL_isRead_89 (lv_at hl 5 rfl) ?_
    refine lv_iconst (v := 1) hx hb dL_isRead_91 (by decide) ?_
    refine lv_iadd hx hb dL_isRead_92 ?_
    obtain ⟨hz6, h⟩ := h
    refine lv_idiv hx hb dL_isRead_93 hz6 ?_
    refine lv_iload hx hb dL_isRead_94 (lv_at hl 5 rfl) ?_
    refine lv_iadd hx hb dL_isRead_96 ?_
    obtain ⟨r7, hc7, h⟩ := h
    have hPc := hP.sub (ws' := ([] : va_W)) [] rfl
    have hDc := hD.sub (ws' := ([] : va_W)) [] rfl rfl
    have hFc := va_free (wc := ([] : va_W)) hD hS hA [] rfl
    refine xc_l (va_runS (As := [.int ((v2 / (v6 + 2)) + (7 * v6)), .int ((v3 / (v6 + 1)) + v6)]) (rest := [.ref a0]) ⟨hx, hb, hml, hown, hts⟩ (met_L_part l D k H.size ((v2 / (v6 + 2)) + (7 * v6)) ((v3 / (v6 + 1)) + v6) _ hc7) (va_cwS 2 hts gL_isRead_L_part rfl rfl rfl (by decide +kernel) ⟨Nat.le_of_ble_eq_true rfl, Nat.le_of_ble_eq_true rfl⟩) ⟨pw_blind, pw_start hPc hK hDc⟩ rfl rfl hl.1 rfl (lv_room (Nat.le_of_ble_eq_true rfl)) dL_isRead_97 ⟨Nat.le_of_ble_eq_true rfl, Nat.le_of_ble_eq_true rfl⟩) hS hFc (fun H1 locs hP1 hD1 hk1 hS => ?_)
    obtain ⟨hP, hD⟩ := vk hP hD [] rfl hk1 hP1
    clear hP1 hD1 hk1 hFc hPc hDc
    generalize H1 = H at hP hS ⊢
    have hP2 : va_P D vwCl ([(qd, .inl (k 0, 3, .inl dA))] ++ wb) H := hP
    have hD2 : va_D A ([(qd, .inl (k 0, 3, .inl dA))] ++ wb) := hD
    have hPc := vs_r hP2
    have hDc := vd_r hD2
    have hFc := vs_free hDc hS hA
    have hM9 := met_L_types l hst D k hBk h
    refine xc_iB (vx_runSW (mc := 0) (ms := 0) (As := [.ref a0, .long r7]) (rest := []) ⟨hx, hb, hml, hown, hts⟩ (hM9 H.size) (vx_cwSW 2 hts gL_isRead_L_types rfl rfl rfl (by decide +kernel) ⟨Nat.le_of_ble_eq_true rfl, Nat.le_of_ble_eq_true rfl⟩) ⟨pz_blind, pz_start hPc hK hDc (hXP.keep hS.2.1) hNW hFc⟩ rfl rfl hl.1 rfl (lv_room (Nat.le_of_ble_eq_true rfl)) dL_isRead_100 ⟨Nat.le_of_ble_eq_true rfl, Nat.le_of_ble_eq_true rfl⟩) hS hFc (fun r8 Ob8 wb8 H1 locs h hBk9 hP1 hD1 hk1 hS => ?_)
    obtain ⟨hP, hD⟩ := vs_joinR hP2 hD2 hFc hk1 hP1 hD1
    clear hP1 hD1 hk1 hFc hPc hDc hP2 hD2
    replace hBk := hBk9
    clear hBk9
    generalize H1 = H at hP hS ⊢
    replace hP : va_P D vwCl ([(qd, .inl (k 0, 3, .inl dA))] ++ wb8) H := hP
    replace hD : va_D A ([(qd, .inl (k 0, 3, .inl dA))] ++ wb8) := hD
    obtain ⟨wb, hwb⟩ : ∃ z, z = wb8 := ⟨_, rfl⟩
    subst hwb
    clear hM9
    refine lv_if_le (tgt := 110) hx hb dL_isRead_103 (by decide) (fun c9 => ?_) (fun c9 => ?_)
    · replace h := pf_t c9 h
      exact BH_110 _ hKK _ hE119 _ _ _ _ h _ _ _ _ hBk hP hD hS (lv_sub hl [0, 1, 2, 3, 4, 5] rfl)
    · replace h := pf_f c9 h
      refine lv_iconst (v := 1) hx hb dL_isRead_106 (by decide) ?_
      refine lv_goto (tgt := 111) hx hb dL_isRead_107 (by decide) ?_
      refine lv_istore (lv' := [(5, .int 1), (0, .ref a0), (1, .ref qd), (2, .int v2), (3, .int v3), (4, .int v4), (6, .int v6)]) hx hb dL_isRead_111 hl (by decide) rfl (fun ls hl => ?_)
      refine lv_iinc (v := v6 + 1) (lv' := [(6, .int (v6 + 1)), (5, .int 1), (0, .ref a0), (1, .ref qd), (2, .int v2), (3, .int v3), (4, .int v4)]) hx hb dL_isRead_113 hl (k := 6) rfl rfl (by decide) rfl (fun ls hl => ?_)
      refine lv_goto (tgt := 13) hx hb dL_isRead_116 (by decide) ?_
      exact hKK _ _ _ _ _ h _ _ _ _ hBk hP hD hS (lv_sub hl [2, 3, 4, 5, 6, 1, 0] rfl)
  have BH_69 : ∀ (K : Int32 → Int32 → Int32 → OBk → (Nat → Int32) → Prop) (hKK : ∀ (v4 : Int32) (v5 : Int32) (v6 : Int32) (Ob : OBk) (dA : Nat → Int32), K v4 v5 v6 Ob dA → ∀ (H : Heap) (locs : List Loc) (ls : Array Slot) (wb : va_W), isBk k a0 Ob wb → va_P D vwCl ([(qd, .inl (k 0, 3, .inl dA))] ++ wb) H → va_D A ([(qd, .inl (k 0, 3, .inl dA))] ++ wb) → va_S A s.heap H locs → lv_has ls 11 [(0, .ref a0), (1, .ref qd), (2, .int v2), (3, .int v3), (4, .int v4), (5, .int v5), (6, .int v6)] → W p l e rmL_isRead s m args below meth c H locs 0 0 Q (F0 m 13 ls [])) (E119 : Int32 → OBk → (Nat → Int32) → Prop) (hE119 : ∀ (v5 : Int32) (Ob : OBk) (dA : Nat → Int32), E119 v5 Ob dA → ∀ (H : Heap) (locs : List Loc) (ls : Array Slot) (wb : va_W), isBk k a0 Ob wb → va_P D vwCl ([(qd, .inl (k 0, 3, .inl dA))] ++ wb) H → va_D A ([(qd, .inl (k 0, 3, .inl dA))] ++ wb) → va_S A s.heap H locs → lv_has ls 11 [(0, .ref a0), (1, .ref qd), (3, .int v3), (5, .int v5)] → W p l e rmL_isRead s m args below meth c H locs 0 0 Q (F0 m 119 ls [])) (v4 : Int32) (v6 : Int32) (s1 : Int64) (Ob : OBk) (dA : Nat → Int32), BL_isRead_69 K9 v2 v3 K E119 v4 v6 s1 Ob dA → ∀ (H : Heap) (locs : List Loc) (ls : Array Slot) (wb : va_W), isBk k a0 Ob wb → va_P D vwCl ([(qd, .inl (k 0, 3, .inl dA))] ++ wb) H → va_D A ([(qd, .inl (k 0, 3, .inl dA))] ++ wb) → va_S A s.heap H locs → lv_has ls 11 [(0, .ref a0), (1, .ref qd), (2, .int v2), (3, .int v3), (4, .int v4), (6, .int v6)] → W p l e rmL_isRead s m args below meth c H locs 0 0 Q (F0 m 69 ls [.long s1, .ref a0]) := by
    intro K hKK E119 hE119 v4 v6 s1 Ob dA h H locs ls wb hBk hP hD hS hl
    unfold BL_isRead_69 at h
    have hP2 : va_P D vwCl ([(qd, .inl (k 0, 3, .inl dA))] ++ wb) H := hP
    have hD2 : va_D A ([(qd, .inl (k 0, 3, .inl dA))] ++ wb) := hD
    have hPc := vs_r hP2
    have hDc := vd_r hD2
    have hFc := vs_free hDc hS hA
    have hM9 := met_L_types l hst D k hBk h
    refine xc_iB (vx_runSW (mc := 0) (ms := 0) (As := [.ref a0, .long s1]) (rest := []) ⟨hx, hb, hml, hown, hts⟩ (hM9 H.size) (vx_cwSW 2 hts gL_isRead_L_types rfl rfl rfl (by decide +kernel) ⟨Nat.le_of_ble_eq_true rfl, Nat.le_of_ble_eq_true rfl⟩) ⟨pz_blind, pz_start hPc hK hDc (hXP.keep hS.2.1) hNW hFc⟩ rfl rfl hl.1 rfl (lv_room (Nat.le_of_ble_eq_true rfl)) dL_isRead_69 ⟨Nat.le_of_ble_eq_true rfl, Nat.le_of_ble_eq_true rfl⟩) hS hFc (fun r12 Ob12 wb12 H1 locs h hBk9 hP1 hD1 hk1 hS => ?_)
    obtain ⟨hP, hD⟩ := vs_joinR hP2 hD2 hFc hk1 hP1 hD1
    clear hP1 hD1 hk1 hFc hPc hDc hP2 hD2
    replace hBk := hBk9
    clear hBk9
    generalize H1 = H at hP hS ⊢
    replace hP : va_P D vwCl ([(qd, .inl (k 0, 3, .inl dA))] ++ wb12) H := hP
    replace hD : va_D A ([(qd, .inl (k 0, 3, .inl dA))] ++ wb12) := hD
    obtain ⟨wb, hwb⟩ : ∃ z, z = wb12 := ⟨_, rfl⟩
    subst hwb
    clear hM9
    refine lv_if_le (tgt := 110) hx hb dL_isRead_72 (by decide) (fun c13 => ?_) (fun c13 => ?_)
    · replace h := pf_t c13 h
      exact BH_110 _ hKK _ hE119 _ _ _ _ h _ _ _ _ hBk hP hD hS (lv_sub hl [0, 1, 2, 3, 4, 5] rfl)
    · replace h := pf_f c13 h
      exact BH_75 _ hKK _ hE119 _ _ _ _ h _ _ _ _ hBk hP hD hS (lv_sub hl [0, 1, 2, 3, 4, 5] rfl)
  have LH_13 : ∀ (E119 : Int32 → OBk → (Nat → Int32) → Prop) (hE119 : ∀ (v5 : Int32) (Ob : OBk) (dA : Nat → Int32), E119 v5 Ob dA → ∀ (H : Heap) (locs : List Loc) (ls : Array Slot) (wb : va_W), isBk k a0 Ob wb → va_P D vwCl ([(qd, .inl (k 0, 3, .inl dA))] ++ wb) H → va_D A ([(qd, .inl (k 0, 3, .inl dA))] ++ wb) → va_S A s.heap H locs → lv_has ls 11 [(0, .ref a0), (1, .ref qd), (3, .int v3), (5, .int v5)] → W p l e rmL_isRead s m args below meth c H locs 0 0 Q (F0 m 119 ls [])) (n : Nat) (v4 : Int32) (v5 : Int32) (v6 : Int32) (Ob : OBk) (dA : Nat → Int32), LL_isRead_13 K9 v2 v3 E119 n v4 v5 v6 Ob dA → ∀ (H : Heap) (locs : List Loc) (ls : Array Slot) (wb : va_W), isBk k a0 Ob wb → va_P D vwCl ([(qd, .inl (k 0, 3, .inl dA))] ++ wb) H → va_D A ([(qd, .inl (k 0, 3, .inl dA))] ++ wb) → va_S A s.heap H locs → lv_has ls 11 [(0, .ref a0), (1, .ref qd), (2, .int v2), (3, .int v3), (4, .int v4), (5, .int v5), (6, .int v6)] → W p l e rmL_isRead s m args below meth c H locs 0 0 Q (F0 m 13 ls []) := by
    intro E119 hE119 n
    induction n with
    | zero => intro v4 v5 v6 Ob dA h; exact h.elim
    | succ n ih =>
    intro v4 v5 v6 Ob dA h H locs ls wb hBk hP hD hS hl
    rw [LL_isRead_13] at h
    refine lv_iload hx hb dL_isRead_13 (lv_at hl 6 rfl) ?_
    refine lv_iload hx hb dL_isRead_15 (lv_at hl 4 rfl) ?_
    refine lv_icmp_ge (tgt := 119) hx hb dL_isRead_17 (by decide) (fun c1 => ?_) (fun c1 => ?_)
    · replace h := pf_t c1 h
      exact hE119 _ _ _ h _ _ _ _ hBk hP hD hS (lv_sub hl [0, 1, 3, 5] rfl)
    · replace h := pf_f c1 h
      refine lv_iload hx hb dL_isRead_20 (lv_at hl 5 rfl) ?_
      refine lv_if_eq (tgt := 119) hx hb dL_isRead_22 (by decide) (fun c2 => ?_) (fun c2 => ?_)
      · replace h := pf_t c2 h
        exact hE119 _ _ _ h _ _ _ _ hBk hP hD hS (lv_sub hl [0, 1, 3, 5] rfl)
      · replace h := pf_f c2 h
        refine lv_iload_n hx hb dL_isRead_25 rfl (lv_at hl 2 rfl) ?_
        refine lv_iconst (v := 5) hx hb dL_isRead_26 (by decide) ?_
        refine lv_idiv hx hb dL_isRead_27 (by decide) ?_
        refine lv_iload hx hb dL_isRead_28 (lv_at hl 6 rfl) ?_
        refine lv_iconst (v := 1) hx hb dL_isRead_30 (by decide) ?_
        refine lv_iadd hx hb dL_isRead_31 ?_
        obtain ⟨hz3, h⟩ := h
        refine lv_idiv hx hb dL_isRead_32 hz3 ?_
        refine lv_iconst (v := 3) hx hb dL_isRead_33 (by decide) ?_
        refine lv_irem hx hb dL_isRead_34 (by decide) ?_
        refine lv_istore (lv' := [(7, .int (jrem ((v2 / 5) / (v6 + 1)) 3)), (0, .ref a0), (1, .ref qd), (2, .int v2), (3, .int v3), (4, .int v4), (5, .int v5), (6, .int v6)]) hx hb dL_isRead_35 hl (by decide) rfl (fun ls hl => ?_)
        refine lv_iload hx hb dL_isRead_37 (lv_at hl 7 rfl) ?_
        refine lv_if_eq (tgt := 75) hx hb dL_isRead_39 (by decide) (fun c4 => ?_) (fun c4 => ?_)
        · replace h := pf_t c4 h
          exact BH_75 _ ih _ hE119 _ _ _ _ h _ _ _ _ hBk hP hD hS (lv_sub hl [1, 2, 3, 4, 5, 7] rfl)
        · replace h := pf_f c4 h
          refine lv_aload_n hx hb dL_isRead_42 rfl (lv_at hl 1 rfl) ?_
          refine lv_iload hx hb dL_isRead_43 (lv_at hl 0 rfl) ?_
          refine lv_if_ne (tgt := 54) hx hb dL_isRead_45 (by decide) (fun c10 => ?_) (fun c10 => ?_)
          · replace h := pf_f c10 h
            refine lv_iload hx hb dL_isRead_54 (lv_at hl 0 rfl) ?_
            refine lv_iconst (v := 1) hx hb dL_isRead_56 (by decide) ?_
            refine lv_icmp_ne (tgt := 66) hx hb dL_isRead_57 (by decide) (fun c11 => ?_) (fun c11 => ?_)
            · replace h := pf_f c11 h
              refine lv_ldc2 (v := 45) hx hb hown kc35 dL_isRead_66 ?_
              exact BH_69 _ ih _ hE119 _ _ _ _ _ h _ _ _ _ hBk hP hD hS (lv_sub hl [1, 2, 3, 4, 5, 7] rfl)
            · replace h := pf_t c11 h
              refine lv_ldc2 (v := 43) hx hb hown kc87 dL_isRead_60 ?_
              refine lv_goto (tgt := 69) hx hb dL_isRead_63 (by decide) ?_
              exact BH_69 _ ih _ hE119 _ _ _ _ _ h _ _ _ _ hBk hP hD hS (lv_sub hl [1, 2, 3, 4, 5, 7] rfl)
          · replace h := pf_t c10 h
            refine lv_ldc2 (v := 42) hx hb hown kc85 dL_isRead_48 ?_
            refine lv_goto (tgt := 69) hx hb dL_isRead_51 (by decide) ?_
            exact BH_69 _ ih _ hE119 _ _ _ _ _ h _ _ _ _ hBk hP hD hS (lv_sub hl [1, 2, 3, 4, 5, 7] rfl)
  have BH_184 : ∀ (v5 : Int32) (v6 : Int32) (v7 : Int32) (v8 : Int32) (s1 : Int32) (s2 : Int32) (s3 : Int32) (Ob : OBk) (dA : Nat → Int32), BL_isRead_184 K9 v2 v3 v5 v6 v7 v8 s1 s2 s3 Ob dA → ∀ (H : Heap) (locs : List Loc) (ls : Array Slot) (wb : va_W), isBk k a0 Ob wb → va_P D vwCl ([(qd, .inl (k 0, 3, .inl dA))] ++ wb) H → va_D A ([(qd, .inl (k 0, 3, .inl dA))] ++ wb) → va_S A s.heap H locs → lv_has ls 11 [(0, .ref a0), (1, .ref qd), (5, .int v5), (6, .int v6), (7, .int v7), (8, .int v8)] → W p l e rmL_isRead s m args below meth c H locs 8 429 Q (F0 m 184 ls [.int s3, .int s2, .int s1, .ref qd]) := by
    intro  v5 v6 v7 v8 s1 s2 s3 Ob dA h H locs ls wb hBk hP hD hS hl
    unfold BL_isRead_184 at h
    refine lv_iadd hx hb dL_isRead_184 ?_
    obtain ⟨hi22, h⟩ := h
    refine va_iast hx hb hK hP hD hS 0 0 rfl rfl hi22 dL_isRead_185 (fun H locs hP hD hS => ?_)
    replace hP : va_P D vwCl ([(qd, .inl (k 0, 3, .inl (upd dA (s1.toNatClampNeg) (s2 + s3))))] ++ wb) H := hP
    replace hD : va_D A ([(qd, .inl (k 0, 3, .inl (upd dA (s1.toNatClampNeg) (s2 + s3))))] ++ wb) := hD
    refine lv_aload_n hx hb dL_isRead_186 rfl (lv_at hl 0 rfl) ?_
    refine lv_iload hx hb dL_isRead_187 (lv_at hl 4 rfl) ?_
    have hP2 : va_P D vwCl ([(qd, .inl (k 0, 3, .inl (upd dA (s1.toNatClampNeg) (s2 + s3))))] ++ wb) H := hP
    have hD2 : va_D A ([(qd, .inl (k 0, 3, .inl (upd dA (s1.toNatClampNeg) (s2 + s3))))] ++ wb) := hD
    have hPc := vs_r hP2
    have hDc := vd_r hD2
    have hFc := vs_free hDc hS hA
    obtain ⟨fs9, hb9⟩ := isBk_head hBk
    have hM9 := bk_value l D k hBk h
    refine xc_lB (va_runV (mc := 0) (ms := 0) (As := [.int v7]) (rest := []) ⟨hx, hb, hml, hown, hts⟩ (hM9 H.size) (cwV 1 hts gL_isRead_X6_value rfl rfl rfl (by decide +kernel) ⟨Nat.le_of_ble_eq_true rfl, Nat.le_of_ble_eq_true rfl⟩) ⟨pn_blind, va_recv hK hPc (ci := 6) (q0 := 0) rfl hb9, pn_start hPc hK hDc hNW⟩ rfl rfl hl.1 rfl (lv_room (Nat.le_of_ble_eq_true rfl)) dL_isRead_189 ⟨Nat.le_of_ble_eq_true rfl, Nat.le_of_ble_eq_true rfl⟩) hS hFc (fun r23 Ob23 wb23 H1 locs h hBk9 hP1 hD1 hk1 hS => ?_)
    obtain ⟨hP, hD⟩ := vs_joinR hP2 hD2 hFc hk1 hP1 hD1
    clear hP1 hD1 hk1 hFc hPc hDc hP2 hD2
    replace hBk := hBk9
    clear hBk9
    generalize H1 = H at hP hS ⊢
    replace hP : va_P D vwCl ([(qd, .inl (k 0, 3, .inl (upd dA (s1.toNatClampNeg) (s2 + s3))))] ++ wb23) H := hP
    replace hD : va_D A ([(qd, .inl (k 0, 3, .inl (upd dA (s1.toNatClampNeg) (s2 + s3))))] ++ wb23) := hD
    obtain ⟨wb, hwb⟩ : ∃ z, z = wb23 := ⟨_, rfl⟩
    subst hwb
    clear hM9
    refine lv_lstore (lv' := [(9, .long r23), (0, .ref a0), (1, .ref qd), (5, .int v5), (6, .int v6), (7, .int v7), (8, .int v8)]) hx hb dL_isRead_192 hl (by decide) rfl (fun ls hl => ?_)
    refine lv_iload hx hb dL_isRead_194 (lv_at hl 3 rfl) ?_
    refine lv_if_eq (tgt := 287) hx hb dL_isRead_196 (by decide) (fun c24 => ?_) (fun c24 => ?_)
    · replace h := pf_t c24 h
      refine lv_iconst (v := 0) hx hb dL_isRead_287 (by decide) ?_
      refine W.widen (k := 24) (n := 1287) (Nat.le_of_ble_eq_true rfl) (Nat.le_of_ble_eq_true rfl) ?_
      obtain ⟨hnr, h⟩ := h
      have hP9 := hP
      rw [hQ]
      exact W.zret hx hb hr hnr (fun t ht hW => ⟨⟨_, (Ob23, wb, upd dA (s1.toNatClampNeg) (s2 + s3)), rfl, pD_i h hBk, by rw [ht]; exact hP9, va_K.moved hW.alike hK, hD⟩, hS.F ht⟩) hS.2.2 dL_isRead_288
    · replace h := pf_f c24 h
      refine lv_iload hx hb dL_isRead_199 (lv_at hl 4 rfl) ?_
      refine lv_if_le (tgt := 287) hx hb dL_isRead_201 (by decide) (fun c25 => ?_) (fun c25 => ?_)
      · replace h := pf_t c25 h
        refine lv_iconst (v := 0) hx hb dL_isRead_287 (by decide) ?_
        refine W.widen (k := 24) (n := 1287) (Nat.le_of_ble_eq_true rfl) (Nat.le_of_ble_eq_true rfl) ?_
        obtain ⟨hnr, h⟩ := h
        have hP9 := hP
        rw [hQ]
        exact W.zret hx hb hr hnr (fun t ht hW => ⟨⟨_, (Ob23, wb, upd dA (s1.toNatClampNeg) (s2 + s3)), rfl, pD_i h hBk, by rw [ht]; exact hP9, va_K.moved hW.alike hK, hD⟩, hS.F ht⟩) hS.2.2 dL_isRead_288
      · replace h := pf_f c25 h
        refine lv_iload hx hb dL_isRead_204 (lv_at hl 4 rfl) ?_
        refine lv_bipush (v := 60) hx hb dL_isRead_206 (by decide) ?_
        refine lv_icmp_gt (tgt := 287) hx hb dL_isRead_208 (by decide) (fun c26 => ?_) (fun c26 => ?_)
        · replace h := pf_t c26 h
          refine lv_iconst (v := 0) hx hb dL_isRead_287 (by decide) ?_
          refine W.widen (k := 24) (n := 1287) (Nat.le_of_ble_eq_true rfl) (Nat.le_of_ble_eq_true rfl) ?_
          obtain ⟨hnr, h⟩ := h
          have hP9 := hP
          rw [hQ]
          exact W.zret hx hb hr hnr (fun t ht hW => ⟨⟨_, (Ob23, wb, upd dA (s1.toNatClampNeg) (s2 + s3)), rfl, pD_i h hBk, by rw [ht]; exact hP9, va_K.moved hW.alike hK, hD⟩, hS.F ht⟩) hS.2.2 dL_isRead_288
        · replace h := pf_f c26 h
          refine lv_iload hx hb dL_isRead_211 (lv_at hl 6 rfl) ?_
          refine lv_if_le (tgt := 287) hx hb dL_isRead_213 (by decide) (fun c27 => ?_) (fun c27 => ?_)
          · replace h := pf_t c27 h
            refine lv_iconst (v := 0) hx hb dL_isRead_287 (by decide) ?_
            refine W.widen (k := 24) (n := 1287) (Nat.le_of_ble_eq_true rfl) (Nat.le_of_ble_eq_true rfl) ?_
            obtain ⟨hnr, h⟩ := h
            have hP9 := hP
            rw [hQ]
            exact W.zret hx hb hr hnr (fun t ht hW => ⟨⟨_, (Ob23, wb, upd dA (s1.toNatClampNeg) (s2 + s3)), rfl, pD_i h hBk, by rw [ht]; exact hP9, va_K.moved hW.alike hK, hD⟩, hS.F ht⟩) hS.2.2 dL_isRead_288
          · replace h := pf_f c27 h
            refine lv_iload hx hb dL_isRead_216 (lv_at hl 6 rfl) ?_
            refine lv_iload hx hb dL_isRead_218 (lv_at hl 4 rfl) ?_
            refine lv_icmp_gt (tgt := 287) hx hb dL_isRead_220 (by decide) (fun c28 => ?_) (fun c28 => ?_)
            · replace h := pf_t c28 h
              refine lv_iconst (v := 0) hx hb dL_isRead_287 (by decide) ?_
              refine W.widen (k := 24) (n := 1287) (Nat.le_of_ble_eq_true rfl) (Nat.le_of_ble_eq_true rfl) ?_
              obtain ⟨hnr, h⟩ := h
              have hP9 := hP
              rw [hQ]
              exact W.zret hx hb hr hnr (fun t ht hW => ⟨⟨_, (Ob23, wb, upd dA (s1.toNatClampNeg) (s2 + s3)), rfl, pD_i h hBk, by rw [ht]; exact hP9, va_K.moved hW.alike hK, hD⟩, hS.F ht⟩) hS.2.2 dL_isRead_288
            · replace h := pf_f c28 h
              refine lv_aload_n hx hb dL_isRead_223 rfl (lv_at hl 1 rfl) ?_
              refine lv_lconst (v := 0) hx hb dL_isRead_224 (by decide) ?_
              have hP2 : va_P D vwCl ([(qd, .inl (k 0, 3, .inl (upd dA (s1.toNatClampNeg) (s2 + s3))))] ++ wb) H := hP
              have hD2 : va_D A ([(qd, .inl (k 0, 3, .inl (upd dA (s1.toNatClampNeg) (s2 + s3))))] ++ wb) := hD
              have hPc := vs_r hP2
              have hDc := vd_r hD2
              have hFc := vs_free hDc hS hA
              have hM9 := met_L_types l hst D k hBk h
              refine xc_iB (vx_runSW (mc := 0) (ms := 0) (As := [.ref a0, .long 0]) (rest := []) ⟨hx, hb, hml, hown, hts⟩ (hM9 H.size) (vx_cwSW 2 hts gL_isRead_L_types rfl rfl rfl (by decide +kernel) ⟨Nat.le_of_ble_eq_true rfl, Nat.le_of_ble_eq_true rfl⟩) ⟨pz_blind, pz_start hPc hK hDc (hXP.keep hS.2.1) hNW hFc⟩ rfl rfl hl.1 rfl (lv_room (Nat.le_of_ble_eq_true rfl)) dL_isRead_225 ⟨Nat.le_of_ble_eq_true rfl, Nat.le_of_ble_eq_true rfl⟩) hS hFc (fun r29 Ob29 wb29 H1 locs h hBk9 hP1 hD1 hk1 hS => ?_)
              obtain ⟨hP, hD⟩ := vs_joinR hP2 hD2 hFc hk1 hP1 hD1
              clear hP1 hD1 hk1 hFc hPc hDc hP2 hD2
              replace hBk := hBk9
              clear hBk9
              generalize H1 = H at hP hS ⊢
              replace hP : va_P D vwCl ([(qd, .inl (k 0, 3, .inl (upd dA (s1.toNatClampNeg) (s2 + s3))))] ++ wb29) H := hP
              replace hD : va_D A ([(qd, .inl (k 0, 3, .inl (upd dA (s1.toNatClampNeg) (s2 + s3))))] ++ wb29) := hD
              obtain ⟨wb, hwb⟩ : ∃ z, z = wb29 := ⟨_, rfl⟩
              subst hwb
              clear hM9
              refine lv_if_ne (tgt := 287) hx hb dL_isRead_228 (by decide) (fun c30 => ?_) (fun c30 => ?_)
              · replace h := pf_f c30 h
                refine lv_iconst (v := 0) hx hb dL_isRead_287 (by decide) ?_
                refine W.widen (k := 24) (n := 1287) (Nat.le_of_ble_eq_true rfl) (Nat.le_of_ble_eq_true rfl) ?_
                obtain ⟨hnr, h⟩ := h
                have hP9 := hP
                rw [hQ]
                exact W.zret hx hb hr hnr (fun t ht hW => ⟨⟨_, (Ob29, wb, upd dA (s1.toNatClampNeg) (s2 + s3)), rfl, pD_i h hBk, by rw [ht]; exact hP9, va_K.moved hW.alike hK, hD⟩, hS.F ht⟩) hS.2.2 dL_isRead_288
              · replace h := pf_t c30 h
                refine lv_aload_n hx hb dL_isRead_231 rfl (lv_at hl 1 rfl) ?_
                refine lv_ldc2 (v := 42) hx hb hown kc85 dL_isRead_232 ?_
                have hP2 : va_P D vwCl ([(qd, .inl (k 0, 3, .inl (upd dA (s1.toNatClampNeg) (s2 + s3))))] ++ wb) H := hP
                have hD2 : va_D A ([(qd, .inl (k 0, 3, .inl (upd dA (s1.toNatClampNeg) (s2 + s3))))] ++ wb) := hD
                have hPc := vs_r hP2
                have hDc := vd_r hD2
                have hFc := vs_free hDc hS hA
                have hM9 := met_L_types l hst D k hBk h
                refine xc_iB (vx_runSW (mc := 0) (ms := 0) (As := [.ref a0, .long 42]) (rest := []) ⟨hx, hb, hml, hown, hts⟩ (hM9 H.size) (vx_cwSW 2 hts gL_isRead_L_types rfl rfl rfl (by decide +kernel) ⟨Nat.le_of_ble_eq_true rfl, Nat.le_of_ble_eq_true rfl⟩) ⟨pz_blind, pz_start hPc hK hDc (hXP.keep hS.2.1) hNW hFc⟩ rfl rfl hl.1 rfl (lv_room (Nat.le_of_ble_eq_true rfl)) dL_isRead_235 ⟨Nat.le_of_ble_eq_true rfl, Nat.le_of_ble_eq_true rfl⟩) hS hFc (fun r31 Ob31 wb31 H1 locs h hBk9 hP1 hD1 hk1 hS => ?_)
                obtain ⟨hP, hD⟩ := vs_joinR hP2 hD2 hFc hk1 hP1 hD1
                clear hP1 hD1 hk1 hFc hPc hDc hP2 hD2
                replace hBk := hBk9
                clear hBk9
                generalize H1 = H at hP hS ⊢
                replace hP : va_P D vwCl ([(qd, .inl (k 0, 3, .inl (upd dA (s1.toNatClampNeg) (s2 + s3))))] ++ wb31) H := hP
                replace hD : va_D A ([(qd, .inl (k 0, 3, .inl (upd dA (s1.toNatClampNeg) (s2 + s3))))] ++ wb31) := hD
                obtain ⟨wb, hwb⟩ : ∃ z, z = wb31 := ⟨_, rfl⟩
                subst hwb
                clear hM9
                refine lv_iconst (v := 1) hx hb dL_isRead_238 (by decide) ?_
                refine lv_icmp_ne (tgt := 287) hx hb dL_isRead_239 (by decide) (fun c32 => ?_) (fun c32 => ?_)
                · replace h := pf_f c32 h
                  refine lv_iconst (v := 0) hx hb dL_isRead_287 (by decide) ?_
                  refine W.widen (k := 24) (n := 1287) (Nat.le_of_ble_eq_true rfl) (Nat.le_of_ble_eq_true rfl) ?_
                  obtain ⟨hnr, h⟩ := h
                  have hP9 := hP
                  rw [hQ]
                  exact W.zret hx hb hr hnr (fun t ht hW => ⟨⟨_, (Ob31, wb, upd dA (s1.toNatClampNeg) (s2 + s3)), rfl, pD_i h hBk, by rw [ht]; exact hP9, va_K.moved hW.alike hK, hD⟩, hS.F ht⟩) hS.2.2 dL_isRead_288
                · replace h := pf_t c32 h
                  refine lv_aload_n hx hb dL_isRead_242 rfl (lv_at hl 1 rfl) ?_
                  refine lv_iload hx hb dL_isRead_243 (lv_at hl 5 rfl) ?_
                  have hP2 : va_P D vwCl ([(qd, .inl (k 0, 3, .inl (upd dA (s1.toNatClampNeg) (s2 + s3))))] ++ wb) H := hP
                  have hD2 : va_D A ([(qd, .inl (k 0, 3, .inl (upd dA (s1.toNatClampNeg) (s2 + s3))))] ++ wb) := hD
                  have hPc := vs_r hP2
                  have hDc := vd_r hD2
                  have hFc := vs_free hDc hS hA
                  obtain ⟨fs9, hb9⟩ := isBk_head hBk
                  have hM9 := bk_model l D k hBk h
                  refine xc_iB (va_runV (mc := 8) (ms := 429) (As := [.int v7]) (rest := []) ⟨hx, hb, hml, hown, hts⟩ (hM9 H.size) (cwV 1 hts gL_isRead_X6_model rfl rfl rfl (by decide +kernel) ⟨Nat.le_of_ble_eq_true rfl, Nat.le_of_ble_eq_true rfl⟩) ⟨pn_blind, va_recv hK hPc (ci := 6) (q0 := 0) rfl hb9, pn_start hPc hK hDc hNW⟩ rfl rfl hl.1 rfl (lv_room (Nat.le_of_ble_eq_true rfl)) dL_isRead_245 ⟨Nat.le_of_ble_eq_true rfl, Nat.le_of_ble_eq_true rfl⟩) hS hFc (fun r33 Ob33 wb33 H1 locs h hBk9 hP1 hD1 hk1 hS => ?_)
                  obtain ⟨hP, hD⟩ := vs_joinR hP2 hD2 hFc hk1 hP1 hD1
                  clear hP1 hD1 hk1 hFc hPc hDc hP2 hD2
                  replace hBk := hBk9
                  clear hBk9
                  generalize H1 = H at hP hS ⊢
                  replace hP : va_P D vwCl ([(qd, .inl (k 0, 3, .inl (upd dA (s1.toNatClampNeg) (s2 + s3))))] ++ wb33) H := hP
                  replace hD : va_D A ([(qd, .inl (k 0, 3, .inl (upd dA (s1.toNatClampNeg) (s2 + s3))))] ++ wb33) := hD
                  obtain ⟨wb, hwb⟩ : ∃ z, z = wb33 := ⟨_, rfl⟩
                  subst hwb
                  clear hM9
                  refine lv_iconst (v := -1) hx hb dL_isRead_248 (by decide) ?_
                  refine lv_icmp_ne (tgt := 287) hx hb dL_isRead_249 (by decide) (fun c34 => ?_) (fun c34 => ?_)
                  · replace h := pf_f c34 h
                    refine lv_iconst (v := 0) hx hb dL_isRead_287 (by decide) ?_
                    refine W.widen (k := 24) (n := 1287) (Nat.le_of_ble_eq_true rfl) (Nat.le_of_ble_eq_true rfl) ?_
                    obtain ⟨hnr, h⟩ := h
                    have hP9 := hP
                    rw [hQ]
                    exact W.zret hx hb hr hnr (fun t ht hW => ⟨⟨_, (Ob33, wb, upd dA (s1.toNatClampNeg) (s2 + s3)), rfl, pD_i h hBk, by rw [ht]; exact hP9, va_K.moved hW.alike hK, hD⟩, hS.F ht⟩) hS.2.2 dL_isRead_288
                  · replace h := pf_t c34 h
                    refine lv_aload_n hx hb dL_isRead_252 rfl (lv_at hl 1 rfl) ?_
                    refine lv_iload hx hb dL_isRead_253 (lv_at hl 5 rfl) ?_
                    have hP2 : va_P D vwCl ([(qd, .inl (k 0, 3, .inl (upd dA (s1.toNatClampNeg) (s2 + s3))))] ++ wb) H := hP
                    have hD2 : va_D A ([(qd, .inl (k 0, 3, .inl (upd dA (s1.toNatClampNeg) (s2 + s3))))] ++ wb) := hD
                    have hPc := vs_r hP2
                    have hDc := vd_r hD2
                    have hFc := vs_free hDc hS hA
                    obtain ⟨fs9, hb9⟩ := isBk_head hBk
                    have hM9 := bk_value l D k hBk h
                    refine xc_lB (va_runV (mc := 0) (ms := 0) (As := [.int v7]) (rest := []) ⟨hx, hb, hml, hown, hts⟩ (hM9 H.size) (cwV 1 hts gL_isRead_X6_value rfl rfl rfl (by decide +kernel) ⟨Nat.le_of_ble_eq_true rfl, Nat.le_of_ble_eq_true rfl⟩) ⟨pn_blind, va_recv hK hPc (ci := 6) (q0 := 0) rfl hb9, pn_start hPc hK hDc hNW⟩ rfl rfl hl.1 rfl (lv_room (Nat.le_of_ble_eq_true rfl)) dL_isRead_255 ⟨Nat.le_of_ble_eq_true rfl, Nat.le_of_ble_eq_true rfl⟩) hS hFc (fun r35 Ob35 wb35 H1 locs h hBk9 hP1 hD1 hk1 hS => ?_)
                    obtain ⟨hP, hD⟩ := vs_joinR hP2 hD2 hFc hk1 hP1 hD1
                    clear hP1 hD1 hk1 hFc hPc hDc hP2 hD2
                    replace hBk := hBk9
                    clear hBk9
                    generalize H1 = H at hP hS ⊢
                    replace hP : va_P D vwCl ([(qd, .inl (k 0, 3, .inl (upd dA (s1.toNatClampNeg) (s2 + s3))))] ++ wb35) H := hP
                    replace hD : va_D A ([(qd, .inl (k 0, 3, .inl (upd dA (s1.toNatClampNeg) (s2 + s3))))] ++ wb35) := hD
                    obtain ⟨wb, hwb⟩ : ∃ z, z = wb35 := ⟨_, rfl⟩
                    subst hwb
                    clear hM9
                    refine lv_lload hx hb dL_isRead_258 (lv_at hl 0 rfl) ?_
                    refine W.lcmp hx hb dL_isRead_260 ?_
                    refine lv_if_ne (tgt := 287) hx hb dL_isRead_261 (by decide) (fun c36 => ?_) (fun c36 => ?_)
                    · replace h := pf_f c36 h
                      refine lv_iconst (v := 0) hx hb dL_isRead_287 (by decide) ?_
                      refine W.widen (k := 24) (n := 1287) (Nat.le_of_ble_eq_true rfl) (Nat.le_of_ble_eq_true rfl) ?_
                      obtain ⟨hnr, h⟩ := h
                      have hP9 := hP
                      rw [hQ]
                      exact W.zret hx hb hr hnr (fun t ht hW => ⟨⟨_, (Ob35, wb, upd dA (s1.toNatClampNeg) (s2 + s3)), rfl, pD_i h hBk, by rw [ht]; exact hP9, va_K.moved hW.alike hK, hD⟩, hS.F ht⟩) hS.2.2 dL_isRead_288
                    · replace h := pf_t c36 h
                      refine lv_aload_n hx hb dL_isRead_264 rfl (lv_at hl 2 rfl) ?_
                      refine lv_iconst (v := 0) hx hb dL_isRead_265 (by decide) ?_
                      obtain ⟨hi37, h⟩ := h
                      refine va_iald hx hb hK hP 0 0 rfl rfl hi37 dL_isRead_266 ?_
                      refine lv_bipush (v := 8) hx hb dL_isRead_267 (by decide) ?_
                      refine lv_icmp_eq (tgt := 283) hx hb dL_isRead_269 (by decide) (fun c38 => ?_) (fun c38 => ?_)
                      · replace h := pf_t c38 h
                        refine lv_iconst (v := 1) hx hb dL_isRead_283 (by decide) ?_
                        refine lv_goto (tgt := 288) hx hb dL_isRead_284 (by decide) ?_
                        refine W.widen (k := 24) (n := 1287) (Nat.le_of_ble_eq_true rfl) (Nat.le_of_ble_eq_true rfl) ?_
                        obtain ⟨hnr, h⟩ := h
                        have hP9 := hP
                        rw [hQ]
                        exact W.zret hx hb hr hnr (fun t ht hW => ⟨⟨_, (Ob35, wb, upd dA (s1.toNatClampNeg) (s2 + s3)), rfl, pD_i h hBk, by rw [ht]; exact hP9, va_K.moved hW.alike hK, hD⟩, hS.F ht⟩) hS.2.2 dL_isRead_288
                      · replace h := pf_f c38 h
                        refine lv_aload_n hx hb dL_isRead_272 rfl (lv_at hl 1 rfl) ?_
                        refine lv_aload_n hx hb dL_isRead_273 rfl (lv_at hl 2 rfl) ?_
                        refine lv_iconst (v := 0) hx hb dL_isRead_274 (by decide) ?_
                        obtain ⟨hi39, h⟩ := h
                        refine va_iald hx hb hK hP 0 0 rfl rfl hi39 dL_isRead_275 ?_
                        have hP2 : va_P D vwCl ([(qd, .inl (k 0, 3, .inl (upd dA (s1.toNatClampNeg) (s2 + s3))))] ++ wb) H := hP
                        have hD2 : va_D A ([(qd, .inl (k 0, 3, .inl (upd dA (s1.toNatClampNeg) (s2 + s3))))] ++ wb) := hD
                        have hPc := vs_r hP2
                        have hDc := vd_r hD2
                        have hFc := vs_free hDc hS hA
                        obtain ⟨fs9, hb9⟩ := isBk_head hBk
                        have hM9 := bk_model l D k hBk h
                        refine xc_iB (va_runV (mc := 8) (ms := 429) (As := [.int ((upd dA (s1.toNatClampNeg) (s2 + s3)) (0 : Int32).toNatClampNeg)]) (rest := []) ⟨hx, hb, hml, hown, hts⟩ (hM9 H.size) (cwV 1 hts gL_isRead_X6_model rfl rfl rfl (by decide +kernel) ⟨Nat.le_of_ble_eq_true rfl, Nat.le_of_ble_eq_true rfl⟩) ⟨pn_blind, va_recv hK hPc (ci := 6) (q0 := 0) rfl hb9, pn_start hPc hK hDc hNW⟩ rfl rfl hl.1 rfl (lv_room (Nat.le_of_ble_eq_true rfl)) dL_isRead_276 ⟨Nat.le_of_ble_eq_true rfl, Nat.le_of_ble_eq_true rfl⟩) hS hFc (fun r40 Ob40 wb40 H1 locs h hBk9 hP1 hD1 hk1 hS => ?_)
                        obtain ⟨hP, hD⟩ := vs_joinR hP2 hD2 hFc hk1 hP1 hD1
                        clear hP1 hD1 hk1 hFc hPc hDc hP2 hD2
                        replace hBk := hBk9
                        clear hBk9
                        generalize H1 = H at hP hS ⊢
                        replace hP : va_P D vwCl ([(qd, .inl (k 0, 3, .inl (upd dA (s1.toNatClampNeg) (s2 + s3))))] ++ wb40) H := hP
                        replace hD : va_D A ([(qd, .inl (k 0, 3, .inl (upd dA (s1.toNatClampNeg) (s2 + s3))))] ++ wb40) := hD
                        obtain ⟨wb, hwb⟩ : ∃ z, z = wb40 := ⟨_, rfl⟩
                        subst hwb
                        clear hM9
                        refine lv_iconst (v := -1) hx hb dL_isRead_279 (by decide) ?_
                        refine lv_icmp_ne (tgt := 287) hx hb dL_isRead_280 (by decide) (fun c41 => ?_) (fun c41 => ?_)
                        · replace h := pf_f c41 h
                          refine lv_iconst (v := 0) hx hb dL_isRead_287 (by decide) ?_
                          refine W.widen (k := 24) (n := 1287) (Nat.le_of_ble_eq_true rfl) (Nat.le_of_ble_eq_true rfl) ?_
                          obtain ⟨hnr, h⟩ := h
                          have hP9 := hP
                          rw [hQ]
                          exact W.zret hx hb hr hnr (fun t ht hW => ⟨⟨_, (Ob40, wb, upd dA (s1.toNatClampNeg) (s2 + s3)), rfl, pD_i h hBk, by rw [ht]; exact hP9, va_K.moved hW.alike hK, hD⟩, hS.F ht⟩) hS.2.2 dL_isRead_288
                        · replace h := pf_t c41 h
                          refine lv_iconst (v := 1) hx hb dL_isRead_283 (by decide) ?_
                          refine lv_goto (tgt := 288) hx hb dL_isRead_284 (by decide) ?_
                          refine W.widen (k := 24) (n := 1287) (Nat.le_of_ble_eq_true rfl) (Nat.le_of_ble_eq_true rfl) ?_
                          obtain ⟨hnr, h⟩ := h
                          have hP9 := hP
                          rw [hQ]
                          exact W.zret hx hb hr hnr (fun t ht hW => ⟨⟨_, (Ob40, wb, upd dA (s1.toNatClampNeg) (s2 + s3)), rfl, pD_i h hBk, by rw [ht]; exact hP9, va_K.moved hW.alike hK, hD⟩, hS.F ht⟩) hS.2.2 dL_isRead_288
  have BH_157 : ∀ (v5 : Int32) (v6 : Int32) (s0 : Int32) (Ob : OBk) (dA : Nat → Int32), BL_isRead_157 K9 v2 v3 v5 v6 s0 Ob dA → ∀ (H : Heap) (locs : List Loc) (ls : Array Slot) (wb : va_W), isBk k a0 Ob wb → va_P D vwCl ([(qd, .inl (k 0, 3, .inl dA))] ++ wb) H → va_D A ([(qd, .inl (k 0, 3, .inl dA))] ++ wb) → va_S A s.heap H locs → lv_has ls 11 [(0, .ref a0), (1, .ref qd), (5, .int v5), (6, .int v6)] → W p l e rmL_isRead s m args below meth c H locs 0 0 Q (F0 m 157 ls [.int s0]) := by
    intro  v5 v6 s0 Ob dA h H locs ls wb hBk hP hD hS hl
    unfold BL_isRead_157 at h
    refine lv_istore (lv' := [(7, .int s0), (0, .ref a0), (1, .ref qd), (5, .int v5), (6, .int v6)]) hx hb dL_isRead_157 hl (by decide) rfl (fun ls hl => ?_)
    refine lv_aload_n hx hb dL_isRead_159 rfl (lv_at hl 1 rfl) ?_
    refine lv_iload hx hb dL_isRead_160 (lv_at hl 0 rfl) ?_
    have hP2 : va_P D vwCl ([(qd, .inl (k 0, 3, .inl dA))] ++ wb) H := hP
    have hD2 : va_D A ([(qd, .inl (k 0, 3, .inl dA))] ++ wb) := hD
    have hPc := vs_r hP2
    have hDc := vd_r hD2
    have hFc := vs_free hDc hS hA
    obtain ⟨fs9, hb9⟩ := isBk_head hBk
    have hM9 := bk_model l D k hBk h
    refine xc_iB (va_runV (mc := 8) (ms := 429) (As := [.int s0]) (rest := []) ⟨hx, hb, hml, hown, hts⟩ (hM9 H.size) (cwV 1 hts gL_isRead_X6_model rfl rfl rfl (by decide +kernel) ⟨Nat.le_of_ble_eq_true rfl, Nat.le_of_ble_eq_true rfl⟩) ⟨pn_blind, va_recv hK hPc (ci := 6) (q0 := 0) rfl hb9, pn_start hPc hK hDc hNW⟩ rfl rfl hl.1 rfl (lv_room (Nat.le_of_ble_eq_true rfl)) dL_isRead_162 ⟨Nat.le_of_ble_eq_true rfl, Nat.le_of_ble_eq_true rfl⟩) hS hFc (fun r18 Ob18 wb18 H1 locs h hBk9 hP1 hD1 hk1 hS => ?_)
    obtain ⟨hP, hD⟩ := vs_joinR hP2 hD2 hFc hk1 hP1 hD1
    clear hP1 hD1 hk1 hFc hPc hDc hP2 hD2
    replace hBk := hBk9
    clear hBk9
    generalize H1 = H at hP hS ⊢
    replace hP : va_P D vwCl ([(qd, .inl (k 0, 3, .inl dA))] ++ wb18) H := hP
    replace hD : va_D A ([(qd, .inl (k 0, 3, .inl dA))] ++ wb18) := hD
    obtain ⟨wb, hwb⟩ : ∃ z, z = wb18 := ⟨_, rfl⟩
    subst hwb
    clear hM9
    refine lv_istore (lv' := [(8, .int r18), (7, .int s0), (0, .ref a0), (1, .ref qd), (5, .int v5), (6, .int v6)]) hx hb dL_isRead_165 hl (by decide) rfl (fun ls hl => ?_)
    refine lv_aload_n hx hb dL_isRead_167 rfl (lv_at hl 3 rfl) ?_
    refine lv_iconst (v := 0) hx hb dL_isRead_168 (by decide) ?_
    refine lv_dup2_11 hx hb dL_isRead_169 rfl rfl ?_
    obtain ⟨hi19, h⟩ := h
    refine va_iald hx hb hK hP 0 0 rfl rfl hi19 dL_isRead_170 ?_
    refine lv_iload hx hb dL_isRead_171 (lv_at hl 1 rfl) ?_
    refine lv_aload_n hx hb dL_isRead_173 rfl (lv_at hl 3 rfl) ?_
    refine lv_iconst (v := 0) hx hb dL_isRead_174 (by decide) ?_
    obtain ⟨hi20, h⟩ := h
    refine va_iald hx hb hK hP 0 0 rfl rfl hi20 dL_isRead_175 ?_
    refine lv_icmp_ne (tgt := 183) hx hb dL_isRead_176 (by decide) (fun c21 => ?_) (fun c21 => ?_)
    · replace h := pf_f c21 h
      refine lv_iconst (v := 0) hx hb dL_isRead_183 (by decide) ?_
      refine W.widen (k := 8) (n := 429) (Nat.le_of_ble_eq_true rfl) (Nat.le_of_ble_eq_true rfl) ?_
      exact BH_184  _ _ _ _ _ _ _ _ _ h _ _ _ _ hBk hP hD hS (lv_sub hl [2, 3, 4, 5, 1, 0] rfl)
    · replace h := pf_t c21 h
      refine lv_iconst (v := 1) hx hb dL_isRead_179 (by decide) ?_
      refine lv_goto (tgt := 184) hx hb dL_isRead_180 (by decide) ?_
      refine W.widen (k := 8) (n := 429) (Nat.le_of_ble_eq_true rfl) (Nat.le_of_ble_eq_true rfl) ?_
      exact BH_184  _ _ _ _ _ _ _ _ _ h _ _ _ _ hBk hP hD hS (lv_sub hl [2, 3, 4, 5, 1, 0] rfl)
  have BH_146 : ∀ (v5 : Int32) (v6 : Int32) (Ob : OBk) (dA : Nat → Int32), BL_isRead_146 K9 v2 v3 v5 v6 Ob dA → ∀ (H : Heap) (locs : List Loc) (ls : Array Slot) (wb : va_W), isBk k a0 Ob wb → va_P D vwCl ([(qd, .inl (k 0, 3, .inl dA))] ++ wb) H → va_D A ([(qd, .inl (k 0, 3, .inl dA))] ++ wb) → va_S A s.heap H locs → lv_has ls 11 [(0, .ref a0), (1, .ref qd), (5, .int v5), (6, .int v6)] → W p l e rmL_isRead s m args below meth c H locs 0 0 Q (F0 m 146 ls []) := by
    intro  v5 v6 Ob dA h H locs ls wb hBk hP hD hS hl
    unfold BL_isRead_146 at h
    refine lv_aload_n hx hb dL_isRead_146 rfl (lv_at hl 1 rfl) ?_
    refine lv_iconst (v := 0) hx hb dL_isRead_147 (by decide) ?_
    obtain ⟨hi17, h⟩ := h
    refine va_iald hx hb hK hP 0 0 rfl rfl hi17 dL_isRead_148 ?_
    refine lv_goto (tgt := 157) hx hb dL_isRead_149 (by decide) ?_
    exact BH_157  _ _ _ _ _ h _ _ _ _ hBk hP hD hS (lv_sub hl [0, 1, 2, 3] rfl)
  have BH_152 : ∀ (v5 : Int32) (v6 : Int32) (Ob : OBk) (dA : Nat → Int32), BL_isRead_152 K9 v2 v3 v5 v6 Ob dA → ∀ (H : Heap) (locs : List Loc) (ls : Array Slot) (wb : va_W), isBk k a0 Ob wb → va_P D vwCl ([(qd, .inl (k 0, 3, .inl dA))] ++ wb) H → va_D A ([(qd, .inl (k 0, 3, .inl dA))] ++ wb) → va_S A s.heap H locs → lv_has ls 11 [(0, .ref a0), (1, .ref qd), (3, .int v3), (5, .int v5), (6, .int v6)] → W p l e rmL_isRead s m args below meth c H locs 0 0 Q (F0 m 152 ls []) := by
    intro  v5 v6 Ob dA h H locs ls wb hBk hP hD hS hl
    unfold BL_isRead_152 at h
    refine lv_iload_n hx hb dL_isRead_152 rfl (lv_at hl 2 rfl) ?_
    refine lv_aload_n hx hb dL_isRead_153 rfl (lv_at hl 1 rfl) ?_
    refine lv_iconst (v := 0) hx hb dL_isRead_154 (by decide) ?_
    obtain ⟨hi44, h⟩ := h
    refine va_iald hx hb hK hP 0 0 rfl rfl hi44 dL_isRead_155 ?_
    obtain ⟨hz45, h⟩ := h
    refine lv_irem hx hb dL_isRead_156 hz45 ?_
    exact BH_157  _ _ _ _ _ h _ _ _ _ hBk hP hD hS (lv_sub hl [0, 1, 3, 4] rfl)
  have BH_119 : ∀ (v5 : Int32) (Ob : OBk) (dA : Nat → Int32), BL_isRead_119 K9 v2 v3 v5 Ob dA → ∀ (H : Heap) (locs : List Loc) (ls : Array Slot) (wb : va_W), isBk k a0 Ob wb → va_P D vwCl ([(qd, .inl (k 0, 3, .inl dA))] ++ wb) H → va_D A ([(qd, .inl (k 0, 3, .inl dA))] ++ wb) → va_S A s.heap H locs → lv_has ls 11 [(0, .ref a0), (1, .ref qd), (3, .int v3), (5, .int v5)] → W p l e rmL_isRead s m args below meth c H locs 0 0 Q (F0 m 119 ls []) := by
    intro  v5 Ob dA h H locs ls wb hBk hP hD hS hl
    unfold BL_isRead_119 at h
    refine lv_aload_n hx hb dL_isRead_119 rfl (lv_at hl 0 rfl) ?_
    refine lv_lconst (v := 0) hx hb dL_isRead_120 (by decide) ?_
    have hP2 : va_P D vwCl ([(qd, .inl (k 0, 3, .inl dA))] ++ wb) H := hP
    have hD2 : va_D A ([(qd, .inl (k 0, 3, .inl dA))] ++ wb) := hD
    have hPc := vs_r hP2
    have hDc := vd_r hD2
    have hFc := vs_free hDc hS hA
    have hM9 := met_L_types l hst D k hBk h
    refine xc_iB (vx_runSW (mc := 0) (ms := 0) (As := [.ref a0, .long 0]) (rest := []) ⟨hx, hb, hml, hown, hts⟩ (hM9 H.size) (vx_cwSW 2 hts gL_isRead_L_types rfl rfl rfl (by decide +kernel) ⟨Nat.le_of_ble_eq_true rfl, Nat.le_of_ble_eq_true rfl⟩) ⟨pz_blind, pz_start hPc hK hDc (hXP.keep hS.2.1) hNW hFc⟩ rfl rfl hl.1 rfl (lv_room (Nat.le_of_ble_eq_true rfl)) dL_isRead_121 ⟨Nat.le_of_ble_eq_true rfl, Nat.le_of_ble_eq_true rfl⟩) hS hFc (fun r14 Ob14 wb14 H1 locs h hBk9 hP1 hD1 hk1 hS => ?_)
    obtain ⟨hP, hD⟩ := vs_joinR hP2 hD2 hFc hk1 hP1 hD1
    clear hP1 hD1 hk1 hFc hPc hDc hP2 hD2
    replace hBk := hBk9
    clear hBk9
    generalize H1 = H at hP hS ⊢
    replace hP : va_P D vwCl ([(qd, .inl (k 0, 3, .inl dA))] ++ wb14) H := hP
    replace hD : va_D A ([(qd, .inl (k 0, 3, .inl dA))] ++ wb14) := hD
    obtain ⟨wb, hwb⟩ : ∃ z, z = wb14 := ⟨_, rfl⟩
    subst hwb
    clear hM9
    refine lv_istore (lv' := [(6, .int r14), (0, .ref a0), (1, .ref qd), (3, .int v3), (5, .int v5)]) hx hb dL_isRead_124 hl (by decide) rfl (fun ls hl => ?_)
    refine lv_aload_n hx hb dL_isRead_126 rfl (lv_at hl 2 rfl) ?_
    refine lv_iconst (v := 0) hx hb dL_isRead_127 (by decide) ?_
    obtain ⟨hi15, h⟩ := h
    refine va_iald hx hb hK hP 0 0 rfl rfl hi15 dL_isRead_128 ?_
    refine lv_if_eq (tgt := 146) hx hb dL_isRead_129 (by decide) (fun c16 => ?_) (fun c16 => ?_)
    · replace h := pf_t c16 h
      exact BH_146  _ _ _ _ h _ _ _ _ hBk hP hD hS (lv_sub hl [1, 2, 4, 0] rfl)
    · replace h := pf_f c16 h
      refine lv_aload_n hx hb dL_isRead_132 rfl (lv_at hl 2 rfl) ?_
      refine lv_iconst (v := 0) hx hb dL_isRead_133 (by decide) ?_
      obtain ⟨hi42, h⟩ := h
      refine va_iald hx hb hK hP 0 0 rfl rfl hi42 dL_isRead_134 ?_
      refine lv_bipush (v := 8) hx hb dL_isRead_135 (by decide) ?_
      refine lv_icmp_ge (tgt := 152) hx hb dL_isRead_137 (by decide) (fun c43 => ?_) (fun c43 => ?_)
      · replace h := pf_t c43 h
        exact BH_152  _ _ _ _ h _ _ _ _ hBk hP hD hS (lv_sub hl [1, 2, 3, 4, 0] rfl)
      · replace h := pf_f c43 h
        refine lv_iload_n hx hb dL_isRead_140 rfl (lv_at hl 3 rfl) ?_
        refine lv_iconst (v := 3) hx hb dL_isRead_141 (by decide) ?_
        refine lv_irem hx hb dL_isRead_142 (by decide) ?_
        refine lv_if_le (tgt := 152) hx hb dL_isRead_143 (by decide) (fun c46 => ?_) (fun c46 => ?_)
        · replace h := pf_t c46 h
          exact BH_152  _ _ _ _ h _ _ _ _ hBk hP hD hS (lv_sub hl [1, 2, 3, 4, 0] rfl)
        · replace h := pf_f c46 h
          exact BH_146  _ _ _ _ h _ _ _ _ hBk hP hD hS (lv_sub hl [1, 2, 4, 0] rfl)
  suffices main : ∀ (H : Heap) (locs : List Loc) (ls : Array Slot), va_P D vwCl ([(qd, .inl (k 0, 3, .inl dA))] ++ wb) H → va_D A ([(qd, .inl (k 0, 3, .inl dA))] ++ wb) → va_S A s.heap H locs → lv_has ls 11 [(0, .ref a0), (1, .ref qd), (2, .int v2), (3, .int v3)] → W p l e rmL_isRead s m args below meth c H locs 0 0 Q (F0 m 0 ls []) from main _ _ _ hP hD hS hl
  clear hP hD hS hl ls hAe
  intro H locs ls hP hD hS hl
  refine lv_iconst (v := 1) hx hb dL_isRead_0 (by decide) ?_
  refine lv_iload_n hx hb dL_isRead_1 rfl (lv_at hl 2 rfl) ?_
  refine lv_iconst (v := 5) hx hb dL_isRead_2 (by decide) ?_
  refine lv_irem hx hb dL_isRead_3 (by decide) ?_
  refine lv_iadd hx hb dL_isRead_4 ?_
  refine lv_istore (lv' := [(4, .int (1 + (jrem v2 5))), (0, .ref a0), (1, .ref qd), (2, .int v2), (3, .int v3)]) hx hb dL_isRead_5 hl (by decide) rfl (fun ls hl => ?_)
  refine lv_iconst (v := 1) hx hb dL_isRead_7 (by decide) ?_
  refine lv_istore (lv' := [(5, .int 1), (4, .int (1 + (jrem v2 5))), (0, .ref a0), (1, .ref qd), (2, .int v2), (3, .int v3)]) hx hb dL_isRead_8 hl (by decide) rfl (fun ls hl => ?_)
  refine lv_iconst (v := 0) hx hb dL_isRead_10 (by decide) ?_
  refine lv_istore (lv' := [(6, .int 0), (5, .int 1), (4, .int (1 + (jrem v2 5))), (0, .ref a0), (1, .ref qd), (2, .int v2), (3, .int v3)]) hx hb dL_isRead_11 hl (by decide) rfl (fun ls hl => ?_)
  refine LH_13 _ (fun v5 Ob dA h H locs ls wb hBk hP hD hS hl => ?_) _ _ _ _ _ _ h _ _ _ _ hBk hP hD hS (lv_sub hl [3, 4, 5, 6, 2, 1, 0] rfl)
  · skip
    exact BH_119  _ _ _ h _ _ _ _ hBk hP hD hS (lv_sub hl [0, 1, 2, 3] rfl)
