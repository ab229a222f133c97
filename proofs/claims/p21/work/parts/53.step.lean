def BL_step_181 (K9 : Int32 → OBk → (Nat → Int32) → (Nat → Int32) → Prop) (v3 : Int32) (v4 : Int32) (v5 : Int32)  (v6 : Int32) (v8 : Int32) (v9 : Int32) (v10 : Int32) (s0 : Int32) (s1 : Int32) (Ob : OBk) (dA : Nat → Int32) (wA : Nat → Int32) : Prop := (if s0 = s1 then cb_input v6 0 Ob (fun r11 Ob11 => (if r11 = ((jrem (v4 / 6) 1999) - 999) then cb_input v6 1 Ob11 (fun r13 Ob13 => (if r13 = v10 then cb_input v6 2 Ob13 (fun r15 Ob15 => (if r15 = v8 then cb_input v6 3 Ob15 (fun r17 Ob17 => (if r17 = 0 then cb_input v6 4 Ob17 (fun r19 Ob19 => (if r19 = v9 then (narrow .boolean (.int 1) = .int 1 ∧ K9 1 Ob19 dA wA) else (narrow .boolean (.int 0) = .int 0 ∧ K9 0 Ob19 dA wA))) else (narrow .boolean (.int 0) = .int 0 ∧ K9 0 Ob17 dA wA))) else (narrow .boolean (.int 0) = .int 0 ∧ K9 0 Ob15 dA wA))) else (narrow .boolean (.int 0) = .int 0 ∧ K9 0 Ob13 dA wA))) else (narrow .boolean (.int 0) = .int 0 ∧ K9 0 Ob11 dA wA))) else (narrow .boolean (.int 0) = .int 0 ∧ K9 0 Ob dA wA))
def BL_step_180 (K9 : Int32 → OBk → (Nat → Int32) → (Nat → Int32) → Prop) (v3 : Int32) (v4 : Int32) (v5 : Int32)  (v6 : Int32) (v8 : Int32) (v9 : Int32) (v10 : Int32) (s0 : Int32) (s1 : Int32) (s2 : Int32) (Ob : OBk) (dA : Nat → Int32) (wA : Nat → Int32) : Prop := (¬ s2 = 0 ∧ (BL_step_181 K9 v3 v4 v5 v6 v8 v9 v10 s0 (s1 / s2) Ob dA wA))
def BL_step_110 (K9 : Int32 → OBk → (Nat → Int32) → (Nat → Int32) → Prop) (v3 : Int32) (v4 : Int32) (v5 : Int32)  (v6 : Int32) (v8 : Int32) (s0 : Int32) (Ob : OBk) (dA : Nat → Int32) (wA : Nat → Int32) : Prop := (vp_in v6 6 ∧ (cb_shape v6 ((jrem (v4 / 6) 1999) - 999) v8 s0 Ob (fun r5 Ob5 => (if v8 = 0 then BL_step_181 K9 v3 v4 v5 v6 v8 s0 r5 r5 0 Ob5 dA (upd wA (v6.toNatClampNeg) 0) else (if v8 = 1 then BL_step_180 K9 v3 v4 v5 v6 v8 s0 r5 r5 (s0 * s0) 3 Ob5 dA (upd wA (v6.toNatClampNeg) 0) else (if v8 = 2 then BL_step_180 K9 v3 v4 v5 v6 v8 s0 r5 r5 (s0 * s0) 6 Ob5 dA (upd wA (v6.toNatClampNeg) 0) else BL_step_180 K9 v3 v4 v5 v6 v8 s0 r5 r5 (s0 * s0) 2 Ob5 dA (upd wA (v6.toNatClampNeg) 0)))))))
def BL_step_88 (K9 : Int32 → OBk → (Nat → Int32) → (Nat → Int32) → Prop) (v3 : Int32) (v4 : Int32) (v5 : Int32)  (v6 : Int32) (Ob : OBk) (dA : Nat → Int32) (wA : Nat → Int32) : Prop := (if (jrem v5 4) = 0 then BL_step_110 K9 v3 v4 v5 v6 (jrem v5 4) 0 Ob dA wA else BL_step_110 K9 v3 v4 v5 v6 (jrem v5 4) (jrem (v5 / 4) 100) Ob dA wA)
def BL_step_259 (K9 : Int32 → OBk → (Nat → Int32) → (Nat → Int32) → Prop) (v3 : Int32) (v4 : Int32) (v5 : Int32)  (v6 : Int32) (Ob : OBk) (dA : Nat → Int32) (wA : Nat → Int32) : Prop := cb_read v6 ((jrem v5 1999) - 999) Ob (fun r23 Ob23 => (if r23 = ((-2)) then (vp_in v6 6 ∧ ((if (wA v6.toNatClampNeg) = 8 then (narrow .boolean (.int 1) = .int 1 ∧ K9 1 Ob23 dA wA) else (narrow .boolean (.int 0) = .int 0 ∧ K9 0 Ob23 dA wA)))) else (vp_in v6 6 ∧ ((vp_in v6 6 ∧ ((if r23 < 0 then (narrow .boolean (.int 0) = .int 0 ∧ K9 0 Ob23 dA (upd wA (v6.toNatClampNeg) ((wA v6.toNatClampNeg) + 1))) else cb_input v6 1 Ob23 (fun r28 Ob28 => (if r28 = r23 then cb_input v6 2 Ob28 (fun r30 Ob30 => (if r30 = 4 then cb_input v6 3 Ob30 (fun r32 Ob32 => (vp_in v6 6 ∧ ((if r32 = (((upd wA (v6.toNatClampNeg) ((wA v6.toNatClampNeg) + 1)) v6.toNatClampNeg) - 1) then cb_input v6 4 Ob32 (fun r35 Ob35 => (vp_in v6 6 ∧ ((if r35 = ((upd wA (v6.toNatClampNeg) ((wA v6.toNatClampNeg) + 1)) v6.toNatClampNeg) then (vp_in v6 6 ∧ ((if 1 < ((upd wA (v6.toNatClampNeg) ((wA v6.toNatClampNeg) + 1)) v6.toNatClampNeg) then (narrow .boolean (.int 1) = .int 1 ∧ K9 1 Ob35 dA (upd wA (v6.toNatClampNeg) ((wA v6.toNatClampNeg) + 1))) else cb_input v6 0 Ob35 (fun r40 Ob40 => (if r40 = ((jrem v5 1999) - 999) then (if r23 = 0 then (narrow .boolean (.int 1) = .int 1 ∧ K9 1 Ob40 dA (upd wA (v6.toNatClampNeg) ((wA v6.toNatClampNeg) + 1))) else (narrow .boolean (.int 0) = .int 0 ∧ K9 0 Ob40 dA (upd wA (v6.toNatClampNeg) ((wA v6.toNatClampNeg) + 1)))) else (narrow .boolean (.int 0) = .int 0 ∧ K9 0 Ob40 dA (upd wA (v6.toNatClampNeg) ((wA v6.toNatClampNeg) + 1)))))))) else (narrow .boolean (.int 0) = .int 0 ∧ K9 0 Ob35 dA (upd wA (v6.toNatClampNeg) ((wA v6.toNatClampNeg) + 1))))))) else (narrow .boolean (.int 0) = .int 0 ∧ K9 0 Ob32 dA (upd wA (v6.toNatClampNeg) ((wA v6.toNatClampNeg) + 1))))))) else (narrow .boolean (.int 0) = .int 0 ∧ K9 0 Ob30 dA (upd wA (v6.toNatClampNeg) ((wA v6.toNatClampNeg) + 1))))) else (narrow .boolean (.int 0) = .int 0 ∧ K9 0 Ob28 dA (upd wA (v6.toNatClampNeg) ((wA v6.toNatClampNeg) + 1))))))))))))
def BL_step_460 (K9 : Int32 → OBk → (Nat → Int32) → (Nat → Int32) → Prop) (v3 : Int32) (v4 : Int32) (v5 : Int32) (K : Int32 → Int32 → Int32 → OBk → (Nat → Int32) → (Nat → Int32) → Prop) (E469 : Int32 → Int32 → OBk → (Nat → Int32) → (Nat → Int32) → Prop) (v12 : Int32) (v14 : Int32) (s0 : Int32) (s1 : Int32) (Ob : OBk) (dA : Nat → Int32) (wA : Nat → Int32) : Prop := K v12 (s0 + s1) (v14 + 1) Ob dA wA
def LL_step_435 (K9 : Int32 → OBk → (Nat → Int32) → (Nat → Int32) → Prop) (v3 : Int32) (v4 : Int32) (v5 : Int32) (E469 : Int32 → Int32 → OBk → (Nat → Int32) → (Nat → Int32) → Prop) : Nat → Int32 → Int32 → Int32 → OBk → (Nat → Int32) → (Nat → Int32) → Prop
  | 0, _, _, _, _, _, _ => False
  | fuel + 1, v12, v13, v14, Ob, dA, wA => (vp_in 0 3 ∧ ((if (dA (0 : Int32).toNatClampNeg) ≤ v14 then E469 v12 v13 Ob dA wA else cb_disagrees v14 Ob (fun r50 Ob50 => (if r50 = ((-1)) then BL_step_460 K9 v3 v4 v5 (LL_step_435 K9 v3 v4 v5 E469 fuel) E469 v12 v14 v13 0 Ob50 dA wA else BL_step_460 K9 v3 v4 v5 (LL_step_435 K9 v3 v4 v5 E469 fuel) E469 v12 v14 v13 1 Ob50 dA wA)))))
def BL_step_561 (K9 : Int32 → OBk → (Nat → Int32) → (Nat → Int32) → Prop) (v3 : Int32) (v4 : Int32) (v5 : Int32)  (Ob : OBk) (dA : Nat → Int32) (wA : Nat → Int32) : Prop := wL_isRead v4 v5 Ob dA (fun r60 Ob60 d_60 => (narrow .boolean (.int r60) = .int r60 ∧ K9 r60 Ob60 d_60 wA))
def BL_step_663 (K9 : Int32 → OBk → (Nat → Int32) → (Nat → Int32) → Prop) (v3 : Int32) (v4 : Int32) (v5 : Int32)  (v15 : Int32) (s0 : Int32) (Ob : OBk) (dA : Nat → Int32) (wA : Nat → Int32) : Prop := (if v15 = ((-2)) then (vp_in 1 3 ∧ ((vp_in 1 3 ∧ ((narrow .boolean (.int s0) = .int s0 ∧ K9 s0 Ob (upd dA ((1 : Int32).toNatClampNeg) (dA (1 : Int32).toNatClampNeg)) wA))))) else (vp_in 1 3 ∧ ((narrow .boolean (.int s0) = .int s0 ∧ K9 s0 Ob (upd dA ((1 : Int32).toNatClampNeg) v15) wA))))
def BL_step_662 (K9 : Int32 → OBk → (Nat → Int32) → (Nat → Int32) → Prop) (v3 : Int32) (v4 : Int32) (v5 : Int32)  (v15 : Int32) (Ob : OBk) (dA : Nat → Int32) (wA : Nat → Int32) : Prop := BL_step_663 K9 v3 v4 v5 v15 0 Ob dA wA
def BL_step_598 (K9 : Int32 → OBk → (Nat → Int32) → (Nat → Int32) → Prop) (v3 : Int32) (v4 : Int32) (v5 : Int32)  (s1 : Int32) (s2 : Int32) (Ob : OBk) (dA : Nat → Int32) (wA : Nat → Int32) : Prop := cb_table s1 s2 Ob (fun r66 Ob66 => (if r66 = ((-2)) then (vp_in 1 3 ∧ ((if (dA (1 : Int32).toNatClampNeg) = 12 then BL_step_663 K9 v3 v4 v5 r66 1 Ob66 dA wA else BL_step_663 K9 v3 v4 v5 r66 0 Ob66 dA wA))) else (if r66 < 0 then BL_step_662 K9 v3 v4 v5 r66 Ob66 dA wA else (if 12 < r66 then BL_step_662 K9 v3 v4 v5 r66 Ob66 dA wA else (vp_in 1 3 ∧ ((if 1 < (r66 - (dA (1 : Int32).toNatClampNeg)) then BL_step_662 K9 v3 v4 v5 r66 Ob66 dA wA else (vp_in 1 3 ∧ ((if 1 < ((dA (1 : Int32).toNatClampNeg) - r66) then BL_step_662 K9 v3 v4 v5 r66 Ob66 dA wA else BL_step_663 K9 v3 v4 v5 r66 1 Ob66 dA wA))))))))))
def BL_step_717 (K9 : Int32 → OBk → (Nat → Int32) → (Nat → Int32) → Prop) (v3 : Int32) (v4 : Int32) (v5 : Int32)  (v17 : Int32) (s0 : Int32) (Ob : OBk) (dA : Nat → Int32) (wA : Nat → Int32) : Prop := (vp_in 2 3 ∧ ((if s0 = 0 then (narrow .boolean (.int 0) = .int 0 ∧ K9 0 Ob (upd dA ((2 : Int32).toNatClampNeg) (jrem v5 65537)) wA) else (if v17 < 0 then (narrow .boolean (.int 0) = .int 0 ∧ K9 0 Ob (upd dA ((2 : Int32).toNatClampNeg) (jrem v5 65537)) wA) else (if 65537 ≤ v17 then (narrow .boolean (.int 0) = .int 0 ∧ K9 0 Ob (upd dA ((2 : Int32).toNatClampNeg) (jrem v5 65537)) wA) else (narrow .boolean (.int 1) = .int 1 ∧ K9 1 Ob (upd dA ((2 : Int32).toNatClampNeg) (jrem v5 65537)) wA))))))
def BL_step_712 (K9 : Int32 → OBk → (Nat → Int32) → (Nat → Int32) → Prop) (v3 : Int32) (v4 : Int32) (v5 : Int32)  (v17 : Int32) (Ob : OBk) (dA : Nat → Int32) (wA : Nat → Int32) : Prop := BL_step_717 K9 v3 v4 v5 v17 1 Ob dA wA
def BL_step_800 (K9 : Int32 → OBk → (Nat → Int32) → (Nat → Int32) → Prop) (v3 : Int32) (v4 : Int32) (v5 : Int32)  (v18 : Int32) (s0 : Int32) (Ob : OBk) (dA : Nat → Int32) (wA : Nat → Int32) : Prop := (vp_in 2 3 ∧ ((if v18 < 0 then (narrow .boolean (.int 0) = .int 0 ∧ K9 0 Ob (upd dA ((2 : Int32).toNatClampNeg) ((-1))) wA) else (if (1 + (jrem v5 100)) < v18 then (narrow .boolean (.int 0) = .int 0 ∧ K9 0 Ob (upd dA ((2 : Int32).toNatClampNeg) ((-1))) wA) else (if s0 = 0 then (if v18 = 0 then (narrow .boolean (.int 1) = .int 1 ∧ K9 1 Ob (upd dA ((2 : Int32).toNatClampNeg) ((-1))) wA) else (narrow .boolean (.int 0) = .int 0 ∧ K9 0 Ob (upd dA ((2 : Int32).toNatClampNeg) ((-1))) wA)) else (narrow .boolean (.int 1) = .int 1 ∧ K9 1 Ob (upd dA ((2 : Int32).toNatClampNeg) ((-1))) wA))))))
def wL_step (v3 : Int32) (v4 : Int32) (v5 : Int32) (Ob : OBk) (dA : Nat → Int32) (wA : Nat → Int32) (K9 : Int32 → OBk → (Nat → Int32) → (Nat → Int32) → Prop) : Prop := (if (jrem v3 14 : Int32) = 0 then BL_step_88 K9 v3 v4 v5 (jrem v4 6) Ob dA wA else if (jrem v3 14 : Int32) = 1 then BL_step_88 K9 v3 v4 v5 (jrem v4 6) Ob dA wA else if (jrem v3 14 : Int32) = 2 then BL_step_259 K9 v3 v4 v5 (jrem v4 6) Ob dA wA else if (jrem v3 14 : Int32) = 3 then BL_step_259 K9 v3 v4 v5 (jrem v4 6) Ob dA wA else if (jrem v3 14 : Int32) = 4 then cb_unit (jrem v4 6) ((jrem v5 7) - 3) ((jrem (v5 / 7) 7) - 3) Ob (fun r47 Ob47 => LL_step_435 K9 v3 v4 v5 (fun (v12 : Int32) (v13 : Int32) (Ob : OBk) (dA : Nat → Int32) (wA : Nat → Int32) => (if v12 = v13 then (narrow .boolean (.int 1) = .int 1 ∧ K9 1 Ob dA wA) else (narrow .boolean (.int 0) = .int 0 ∧ K9 0 Ob dA wA))) 1000 r47 0 0 Ob47 dA wA) else if (jrem v3 14 : Int32) = 5 then cb_together (jrem v4 6) (jrem (((jrem v4 6) + 1) + (jrem v5 5)) 6) ((jrem (v5 / 5) 19999) - 9999) Ob (fun r54 Ob54 => (if r54 < ((-9999)) then (narrow .boolean (.int 0) = .int 0 ∧ K9 0 Ob54 dA wA) else (if 9999 < r54 then (narrow .boolean (.int 0) = .int 0 ∧ K9 0 Ob54 dA wA) else cb_together (jrem (((jrem v4 6) + 1) + (jrem v5 5)) 6) (jrem v4 6) ((jrem (v5 / 5) 19999) - 9999) Ob54 (fun r57 Ob57 => (if r57 = ((jrem (v5 / 5) 19999) - 9999) then (narrow .boolean (.int 1) = .int 1 ∧ K9 1 Ob57 dA wA) else (narrow .boolean (.int 0) = .int 0 ∧ K9 0 Ob57 dA wA)))))) else if (jrem v3 14 : Int32) = 6 then BL_step_561 K9 v3 v4 v5 Ob dA wA else if (jrem v3 14 : Int32) = 7 then BL_step_561 K9 v3 v4 v5 Ob dA wA else if (jrem v3 14 : Int32) = 8 then BL_step_561 K9 v3 v4 v5 Ob dA wA else if (jrem v3 14 : Int32) = 9 then BL_step_561 K9 v3 v4 v5 Ob dA wA else if (jrem v3 14 : Int32) = 10 then (if (jrem v5 5) = 0 then BL_step_598 K9 v3 v4 v5 (1 + (jrem v4 30)) ((-1)) Ob dA wA else BL_step_598 K9 v3 v4 v5 (1 + (jrem v4 30)) (jrem (v5 / 5) 1000) Ob dA wA) else if (jrem v3 14 : Int32) = 11 then cb_seed (jrem v5 65537) Ob (fun r81 Ob81 => (vp_in 2 3 ∧ ((if r81 = (dA (2 : Int32).toNatClampNeg) then BL_step_712 K9 v3 v4 v5 r81 Ob81 dA wA else (vp_in 2 3 ∧ ((if (dA (2 : Int32).toNatClampNeg) = ((-1)) then BL_step_712 K9 v3 v4 v5 r81 Ob81 dA wA else BL_step_717 K9 v3 v4 v5 r81 0 Ob81 dA wA))))))) else (vp_in 0 3 ∧ ((if (dA (0 : Int32).toNatClampNeg) = 0 then (narrow .boolean (.int 1) = .int 1 ∧ K9 1 Ob dA wA) else (vp_in 0 3 ∧ ((¬ (dA (0 : Int32).toNatClampNeg) = 0 ∧ (cb_draw (jrem v4 (dA (0 : Int32).toNatClampNeg)) (1 + (jrem v5 100)) Ob (fun r94 Ob94 => (vp_in 0 3 ∧ ((¬ (dA (0 : Int32).toNatClampNeg) = 0 ∧ (cb_budget (jrem v4 (dA (0 : Int32).toNatClampNeg)) 4 Ob94 (fun r97 Ob97 => (if (lg_cmp r97 ((-1))) = 0 then BL_step_800 K9 v3 v4 v5 r94 0 Ob97 dA wA else BL_step_800 K9 v3 v4 v5 r94 1 Ob97 dA wA)))))))))))))))
abbrev rmL_step : Room := { frames := 61, cells := 24, slots := 1287, locals := 2004 }
set_option maxHeartbeats 40000000 in
set_option maxRecDepth 100000 in
theorem met_L_step (l : Launch) (hst : l.stackTraces = false) (D : va_G) (k : Nat → ClassId) (a0 : Nat) (qd : Nat) (qw : Nat) (v3 : Int32) (v4 : Int32) (v5 : Int32) (Ob : OBk) (dA : Nat → Int32) (wA : Nat → Int32) (K9 : Int32 → OBk → (Nat → Int32) → (Nat → Int32) → Prop) (h : wL_step v3 v4 v5 Ob dA wA K9) (wb : va_W) (hBk : isBk k a0 Ob wb) (sz : Nat) : Met l yL_step wsL_step rmL_step (va_Pc [.ref a0, .ref qd, .ref qw, .int v3, .int v4, .int v5] (PreZ D k ([(qw, .inl (k 0, 6, .inl wA)), (qd, .inl (k 0, 3, .inl dA))] ++ wb) sz)) (va_Qi (pE k a0 K9) (fun u t => PostW D k (va_A ([(qw, .inl (k 0, 6, .inl wA)), (qd, .inl (k 0, 3, .inl dA))] ++ wb) sz) ([(qw, .inl (k 0, 6, .inl u.2.2.2)), (qd, .inl (k 0, 3, .inl u.2.2.1))] ++ u.2.1) t) (va_A ([(qw, .inl (k 0, 6, .inl wA)), (qd, .inl (k 0, 3, .inl dA))] ++ wb) sz)) 24 1287 (va_A ([(qw, .inl (k 0, 6, .inl wA)), (qd, .inl (k 0, 3, .inl dA))] ++ wb) sz) := by
  refine Met.ofW (cc := cL_step) (maxL := 20) (ret := (some .boolean)) (by decide) rfl ?_
  intro p e s m args below meth c s₁ B hml hv
  obtain ⟨hav, ⟨⟨hsz, hP, hK, hD0⟩, hXP⟩, hNW⟩ := hv
  have hx := B.exec
  have hb := B.bytes
  have hr := B.returns
  have hts := atoms_spec (ws := wsL_step) B.pre
  have hown : s.vm.findClass RL = some m.cls := findClass_of_methodNamed B.named
  have hlocks := B.notSynchronized
  subst hsz
  have hD := hD0.self (sz := s.heap.size)
  clear hD0
  obtain ⟨A, hAe⟩ : ∃ A, va_A ([(qw, .inl (k 0, 6, .inl wA)), (qd, .inl (k 0, 3, .inl dA))] ++ wb) s.heap.size = A := ⟨_, rfl⟩
  rw [hAe] at hD hXP ⊢
  have hA : ∀ q : Nat, s.heap.size ≤ q → A q := fun q h => by rw [← hAe]; exact Or.inr h
  have hS : va_S A s.heap s.heap [] := va_S.rf
  have hl := lv_entry ([.ref a0, .ref qd, .ref qw, .int v3, .int v4, .int v5]) (n := 20) (Nat.le_of_ble_eq_true rfl)
  rw [show entryFrame m args 20 = entryFrame m ([.ref a0, .ref qd, .ref qw, .int v3, .int v4, .int v5] : List Value).toArray 20 from by rw [hav], lg_entry_eq]
  generalize (lg_sl ([.ref a0, .ref qd, .ref qw, .int v3, .int v4, .int v5]) ++ List.replicate (20 - (lg_sl ([.ref a0, .ref qd, .ref qw, .int v3, .int v4, .int v5])).length) Slot.unset).toArray = ls at hl ⊢
  replace hl : lv_has ls 20 [(0, .ref a0), (1, .ref qd), (2, .ref qw), (3, .int v3), (4, .int v4), (5, .int v5)] := hl
  have kc72 := hts (.constant RL 72 (65537)) (by decide +kernel)
  have kc83 := hts (.constantLong RL 83 (-1)) (by decide +kernel)
  refine w_q (fun Q hQ => ?_)
  unfold wL_step at h
  show W p l e rmL_step s m args below meth c s.heap [] 0 0 Q (F0 m 0 ls [])
  have BH_181 : ∀ (v6 : Int32) (v8 : Int32) (v9 : Int32) (v10 : Int32) (s0 : Int32) (s1 : Int32) (Ob : OBk) (dA : Nat → Int32) (wA : Nat → Int32), BL_step_181 K9 v3 v4 v5 v6 v8 v9 v10 s0 s1 Ob dA wA → ∀ (H : Heap) (locs : List Loc) (ls : Array Slot) (wb : va_W), isBk k a0 Ob wb → va_P D vwCl ([(qw, .inl (k 0, 6, .inl wA)), (qd, .inl (k 0, 3, .inl dA))] ++ wb) H → va_D A ([(qw, .inl (k 0, 6, .inl wA)), (qd, .inl (k 0, 3, .inl dA))] ++ wb) → va_S A s.heap H locs → lv_has ls 20 [(0, .ref a0), (4, .int v4), (6, .int v6), (8, .int v8), (9, .int v9), (10, .int v10)] → W p l e rmL_step s m args below meth c H locs 0 0 Q (F0 m 181 ls [.int s1, .int s0]) := by
    intro  v6 v8 v9 v10 s0 s1 Ob dA wA h H locs ls wb hBk hP hD hS hl
    unfold BL_step_181 at h
    refine lv_icmp_ne (tgt := 257) hx hb dL_step_181 (by decide) (fun c10 => ?_) (fun c10 => ?_)
    · replace h := pf_f c10 h
      refine lv_iconst (v := 0) hx hb dL_step_257 (by decide) ?_
      refine W.widen (k := 24) (n := 1287) (Nat.le_of_ble_eq_true rfl) (Nat.le_of_ble_eq_true rfl) ?_
      obtain ⟨hnr, h⟩ := h
      have hP9 := hP
      rw [hQ]
      exact W.zret hx hb hr hnr (fun t ht hW => ⟨⟨_, (Ob, wb, dA, wA), rfl, pE_i h hBk, by rw [ht]; exact hP9, va_K.moved hW.alike hK, hD⟩, hS.F ht⟩) hS.2.2 dL_step_258
    · replace h := pf_t c10 h
      refine lv_aload_n hx hb dL_step_184 rfl (lv_at hl 0 rfl) ?_
      refine lv_iload hx hb dL_step_185 (lv_at hl 2 rfl) ?_
      refine lv_iconst (v := 0) hx hb dL_step_187 (by decide) ?_
      have hP2 : va_P D vwCl ([(qw, .inl (k 0, 6, .inl wA)), (qd, .inl (k 0, 3, .inl dA))] ++ wb) H := hP
      have hD2 : va_D A ([(qw, .inl (k 0, 6, .inl wA)), (qd, .inl (k 0, 3, .inl dA))] ++ wb) := hD
      have hPc := vs_r hP2
      have hDc := vd_r hD2
      have hFc := vs_free hDc hS hA
      obtain ⟨fs9, hb9⟩ := isBk_head hBk
      have hM9 := bk_input l D k hBk h
      refine xc_iB (va_runV (mc := 0) (ms := 0) (As := [.int v6, .int 0]) (rest := []) ⟨hx, hb, hml, hown, hts⟩ (hM9 H.size) (cwV 2 hts gL_step_X6_input rfl rfl rfl (by decide +kernel) ⟨Nat.le_of_ble_eq_true rfl, Nat.le_of_ble_eq_true rfl⟩) ⟨pn_blind, va_recv hK hPc (ci := 6) (q0 := 0) rfl hb9, pn_start hPc hK hDc hNW⟩ rfl rfl hl.1 rfl (lv_room (Nat.le_of_ble_eq_true rfl)) dL_step_188 ⟨Nat.le_of_ble_eq_true rfl, Nat.le_of_ble_eq_true rfl⟩) hS hFc (fun r11 Ob11 wb11 H1 locs h hBk9 hP1 hD1 hk1 hS => ?_)
      obtain ⟨hP, hD⟩ := vs_joinR hP2 hD2 hFc hk1 hP1 hD1
      clear hP1 hD1 hk1 hFc hPc hDc hP2 hD2
      replace hBk := hBk9
      clear hBk9
      generalize H1 = H at hP hS ⊢
      replace hP : va_P D vwCl ([(qw, .inl (k 0, 6, .inl wA)), (qd, .inl (k 0, 3, .inl dA))] ++ wb11) H := hP
      replace hD : va_D A ([(qw, .inl (k 0, 6, .inl wA)), (qd, .inl (k 0, 3, .inl dA))] ++ wb11) := hD
      obtain ⟨wb, hwb⟩ : ∃ z, z = wb11 := ⟨_, rfl⟩
      subst hwb
      clear hM9
      refine lv_iload hx hb dL_step_191 (lv_at hl 1 rfl) ?_
      refine lv_bipush (v := 6) hx hb dL_step_193 (by decide) ?_
      refine lv_idiv hx hb dL_step_195 (by decide) ?_
      refine lv_sipush (v := 1999) hx hb dL_step_196 (by decide) ?_
      refine lv_irem hx hb dL_step_199 (by decide) ?_
      refine lv_sipush (v := 999) hx hb dL_step_200 (by decide) ?_
      refine lv_isub hx hb dL_step_203 ?_
      refine lv_icmp_ne (tgt := 257) hx hb dL_step_204 (by decide) (fun c12 => ?_) (fun c12 => ?_)
      · replace h := pf_f c12 h
        refine lv_iconst (v := 0) hx hb dL_step_257 (by decide) ?_
        refine W.widen (k := 24) (n := 1287) (Nat.le_of_ble_eq_true rfl) (Nat.le_of_ble_eq_true rfl) ?_
        obtain ⟨hnr, h⟩ := h
        have hP9 := hP
        rw [hQ]
        exact W.zret hx hb hr hnr (fun t ht hW => ⟨⟨_, (Ob11, wb, dA, wA), rfl, pE_i h hBk, by rw [ht]; exact hP9, va_K.moved hW.alike hK, hD⟩, hS.F ht⟩) hS.2.2 dL_step_258
      · replace h := pf_t c12 h
        refine lv_aload_n hx hb dL_step_207 rfl (lv_at hl 0 rfl) ?_
        refine lv_iload hx hb dL_step_208 (lv_at hl 2 rfl) ?_
        refine lv_iconst (v := 1) hx hb dL_step_210 (by decide) ?_
        have hP2 : va_P D vwCl ([(qw, .inl (k 0, 6, .inl wA)), (qd, .inl (k 0, 3, .inl dA))] ++ wb) H := hP
        have hD2 : va_D A ([(qw, .inl (k 0, 6, .inl wA)), (qd, .inl (k 0, 3, .inl dA))] ++ wb) := hD
        have hPc := vs_r hP2
        have hDc := vd_r hD2
        have hFc := vs_free hDc hS hA
        obtain ⟨fs9, hb9⟩ := isBk_head hBk
        have hM9 := bk_input l D k hBk h
        refine xc_iB (va_runV (mc := 0) (ms := 0) (As := [.int v6, .int 1]) (rest := []) ⟨hx, hb, hml, hown, hts⟩ (hM9 H.size) (cwV 2 hts gL_step_X6_input rfl rfl rfl (by decide +kernel) ⟨Nat.le_of_ble_eq_true rfl, Nat.le_of_ble_eq_true rfl⟩) ⟨pn_blind, va_recv hK hPc (ci := 6) (q0 := 0) rfl hb9, pn_start hPc hK hDc hNW⟩ rfl rfl hl.1 rfl (lv_room (Nat.le_of_ble_eq_true rfl)) dL_step_211 ⟨Nat.le_of_ble_eq_true rfl, Nat.le_of_ble_eq_true rfl⟩) hS hFc (fun r13 Ob13 wb13 H1 locs h hBk9 hP1 hD1 hk1 hS => ?_)
        obtain ⟨hP, hD⟩ := vs_joinR hP2 hD2 hFc hk1 hP1 hD1
        clear hP1 hD1 hk1 hFc hPc hDc hP2 hD2
        replace hBk := hBk9
        clear hBk9
        generalize H1 = H at hP hS ⊢
        replace hP : va_P D vwCl ([(qw, .inl (k 0, 6, .inl wA)), (qd, .inl (k 0, 3, .inl dA))] ++ wb13) H := hP
        replace hD : va_D A ([(qw, .inl (k 0, 6, .inl wA)), (qd, .inl (k 0, 3, .inl dA))] ++ wb13) := hD
        obtain ⟨wb, hwb⟩ : ∃ z, z = wb13 := ⟨_, rfl⟩
        subst hwb
        clear hM9
        refine lv_iload hx hb dL_step_214 (lv_at hl 5 rfl) ?_
        refine lv_icmp_ne (tgt := 257) hx hb dL_step_216 (by decide) (fun c14 => ?_) (fun c14 => ?_)
        · replace h := pf_f c14 h
          refine lv_iconst (v := 0) hx hb dL_step_257 (by decide) ?_
          refine W.widen (k := 24) (n := 1287) (Nat.le_of_ble_eq_true rfl) (Nat.le_of_ble_eq_true rfl) ?_
          obtain ⟨hnr, h⟩ := h
          have hP9 := hP
          rw [hQ]
          exact W.zret hx hb hr hnr (fun t ht hW => ⟨⟨_, (Ob13, wb, dA, wA), rfl, pE_i h hBk, by rw [ht]; exact hP9, va_K.moved hW.alike hK, hD⟩, hS.F ht⟩) hS.2.2 dL_step_258
        · replace h := pf_t c14 h
          refine lv_aload_n hx hb dL_step_219 rfl (lv_at hl 0 rfl) ?_
          refine lv_iload hx hb dL_step_220 (lv_at hl 2 rfl) ?_
          refine lv_iconst (v := 2) hx hb dL_step_222 (by decide) ?_
          have hP2 : va_P D vwCl ([(qw, .inl (k 0, 6, .inl wA)), (qd, .inl (k 0, 3, .inl dA))] ++ wb) H := hP
          have hD2 : va_D A ([(qw, .inl (k 0, 6, .inl wA)), (qd, .inl (k 0, 3, .inl dA))] ++ wb) := hD
          have hPc := vs_r hP2
          have hDc := vd_r hD2
          have hFc := vs_free hDc hS hA
          obtain ⟨fs9, hb9⟩ := isBk_head hBk
          have hM9 := bk_input l D k hBk h
          refine xc_iB (va_runV (mc := 0) (ms := 0) (As := [.int v6, .int 2]) (rest := []) ⟨hx, hb, hml, hown, hts⟩ (hM9 H.size) (cwV 2 hts gL_step_X6_input rfl rfl rfl (by decide +kernel) ⟨Nat.le_of_ble_eq_true rfl, Nat.le_of_ble_eq_true rfl⟩) ⟨pn_blind, va_recv hK hPc (ci := 6) (q0 := 0) rfl hb9, pn_start hPc hK hDc hNW⟩ rfl rfl hl.1 rfl (lv_room (Nat.le_of_ble_eq_true rfl)) dL_step_223 ⟨Nat.le_of_ble_eq_true rfl, Nat.le_of_ble_eq_true rfl⟩) hS hFc (fun r15 Ob15 wb15 H1 locs h hBk9 hP1 hD1 hk1 hS => ?_)
          obtain ⟨hP, hD⟩ := vs_joinR hP2 hD2 hFc hk1 hP1 hD1
          clear hP1 hD1 hk1 hFc hPc hDc hP2 hD2
          replace hBk := hBk9
          clear hBk9
          generalize H1 = H at hP hS ⊢
          replace hP : va_P D vwCl ([(qw, .inl (k 0, 6, .inl wA)), (qd, .inl (k 0, 3, .inl dA))] ++ wb15) H := hP
          replace hD : va_D A ([(qw, .inl (k 0, 6, .inl wA)), (qd, .inl (k 0, 3, .inl dA))] ++ wb15) := hD
          obtain ⟨wb, hwb⟩ : ∃ z, z = wb15 := ⟨_, rfl⟩
          subst hwb
          clear hM9
          refine lv_iload hx hb dL_step_226 (lv_at hl 3 rfl) ?_
          refine lv_icmp_ne (tgt := 257) hx hb dL_step_228 (by decide) (fun c16 => ?_) (fun c16 => ?_)
          · replace h := pf_f c16 h
            refine lv_iconst (v := 0) hx hb dL_step_257 (by decide) ?_
            refine W.widen (k := 24) (n := 1287) (Nat.le_of_ble_eq_true rfl) (Nat.le_of_ble_eq_true rfl) ?_
            obtain ⟨hnr, h⟩ := h
            have hP9 := hP
            rw [hQ]
            exact W.zret hx hb hr hnr (fun t ht hW => ⟨⟨_, (Ob15, wb, dA, wA), rfl, pE_i h hBk, by rw [ht]; exact hP9, va_K.moved hW.alike hK, hD⟩, hS.F ht⟩) hS.2.2 dL_step_258
          · replace h := pf_t c16 h
            refine lv_aload_n hx hb dL_step_231 rfl (lv_at hl 0 rfl) ?_
            refine lv_iload hx hb dL_step_232 (lv_at hl 2 rfl) ?_
            refine lv_iconst (v := 3) hx hb dL_step_234 (by decide) ?_
            have hP2 : va_P D vwCl ([(qw, .inl (k 0, 6, .inl wA)), (qd, .inl (k 0, 3, .inl dA))] ++ wb) H := hP
            have hD2 : va_D A ([(qw, .inl (k 0, 6, .inl wA)), (qd, .inl (k 0, 3, .inl dA))] ++ wb) := hD
            have hPc := vs_r hP2
            have hDc := vd_r hD2
            have hFc := vs_free hDc hS hA
            obtain ⟨fs9, hb9⟩ := isBk_head hBk
            have hM9 := bk_input l D k hBk h
            refine xc_iB (va_runV (mc := 0) (ms := 0) (As := [.int v6, .int 3]) (rest := []) ⟨hx, hb, hml, hown, hts⟩ (hM9 H.size) (cwV 2 hts gL_step_X6_input rfl rfl rfl (by decide +kernel) ⟨Nat.le_of_ble_eq_true rfl, Nat.le_of_ble_eq_true rfl⟩) ⟨pn_blind, va_recv hK hPc (ci := 6) (q0 := 0) rfl hb9, pn_start hPc hK hDc hNW⟩ rfl rfl hl.1 rfl (lv_room (Nat.le_of_ble_eq_true rfl)) dL_step_235 ⟨Nat.le_of_ble_eq_true rfl, Nat.le_of_ble_eq_true rfl⟩) hS hFc (fun r17 Ob17 wb17 H1 locs h hBk9 hP1 hD1 hk1 hS => ?_)
            obtain ⟨hP, hD⟩ := vs_joinR hP2 hD2 hFc hk1 hP1 hD1
            clear hP1 hD1 hk1 hFc hPc hDc hP2 hD2
            replace hBk := hBk9
            clear hBk9
            generalize H1 = H at hP hS ⊢
            replace hP : va_P D vwCl ([(qw, .inl (k 0, 6, .inl wA)), (qd, .inl (k 0, 3, .inl dA))] ++ wb17) H := hP
            replace hD : va_D A ([(qw, .inl (k 0, 6, .inl wA)), (qd, .inl (k 0, 3, .inl dA))] ++ wb17) := hD
            obtain ⟨wb, hwb⟩ : ∃ z, z = wb17 := ⟨_, rfl⟩
            subst hwb
            clear hM9
            refine lv_if_ne (tgt := 257) hx hb dL_step_238 (by decide) (fun c18 => ?_) (fun c18 => ?_)
            · replace h := pf_f c18 h
              refine lv_iconst (v := 0) hx hb dL_step_257 (by decide) ?_
              refine W.widen (k := 24) (n := 1287) (Nat.le_of_ble_eq_true rfl) (Nat.le_of_ble_eq_true rfl) ?_
              obtain ⟨hnr, h⟩ := h
              have hP9 := hP
              rw [hQ]
              exact W.zret hx hb hr hnr (fun t ht hW => ⟨⟨_, (Ob17, wb, dA, wA), rfl, pE_i h hBk, by rw [ht]; exact hP9, va_K.moved hW.alike hK, hD⟩, hS.F ht⟩) hS.2.2 dL_step_258
            · replace h := pf_t c18 h
              refine lv_aload_n hx hb dL_step_241 rfl (lv_at hl 0 rfl) ?_
              refine lv_iload hx hb dL_step_242 (lv_at hl 2 rfl) ?_
              refine lv_iconst (v := 4) hx hb dL_step_244 (by decide) ?_
              have hP2 : va_P D vwCl ([(qw, .inl (k 0, 6, .inl wA)), (qd, .inl (k 0, 3, .inl dA))] ++ wb) H := hP
              have hD2 : va_D A ([(qw, .inl (k 0, 6, .inl wA)), (qd, .inl (k 0, 3, .inl dA))] ++ wb) := hD
              have hPc := vs_r hP2
              have hDc := vd_r hD2
              have hFc := vs_free hDc hS hA
              obtain ⟨fs9, hb9⟩ := isBk_head hBk
              have hM9 := bk_input l D k hBk h
              refine xc_iB (va_runV (mc := 0) (ms := 0) (As := [.int v6, .int 4]) (rest := []) ⟨hx, hb, hml, hown, hts⟩ (hM9 H.size) (cwV 2 hts gL_step_X6_input rfl rfl rfl (by decide +kernel) ⟨Nat.le_of_ble_eq_true rfl, Nat.le_of_ble_eq_true rfl⟩) ⟨pn_blind, va_recv hK hPc (ci := 6) (q0 := 0) rfl hb9, pn_start hPc hK hDc hNW⟩ rfl rfl hl.1 rfl (lv_room (Nat.le_of_ble_eq_true rfl)) dL_step_245 ⟨Nat.le_of_ble_eq_true rfl, Nat.le_of_ble_eq_true rfl⟩) hS hFc (fun r19 Ob19 wb19 H1 locs h hBk9 hP1 hD1 hk1 hS => ?_)
              obtain ⟨hP, hD⟩ := vs_joinR hP2 hD2 hFc hk1 hP1 hD1
              clear hP1 hD1 hk1 hFc hPc hDc hP2 hD2
              replace hBk := hBk9
              clear hBk9
              generalize H1 = H at hP hS ⊢
              replace hP : va_P D vwCl ([(qw, .inl (k 0, 6, .inl wA)), (qd, .inl (k 0, 3, .inl dA))] ++ wb19) H := hP
              replace hD : va_D A ([(qw, .inl (k 0, 6, .inl wA)), (qd, .inl (k 0, 3, .inl dA))] ++ wb19) := hD
              obtain ⟨wb, hwb⟩ : ∃ z, z = wb19 := ⟨_, rfl⟩
              subst hwb
              clear hM9
              refine lv_iload hx hb dL_step_248 (lv_at hl 4 rfl) ?_
              refine lv_icmp_ne (tgt := 257) hx hb dL_step_250 (by decide) (fun c20 => ?_) (fun c20 => ?_)
              · replace h := pf_f c20 h
                refine lv_iconst (v := 0) hx hb dL_step_257 (by decide) ?_
                refine W.widen (k := 24) (n := 1287) (Nat.le_of_ble_eq_true rfl) (Nat.le_of_ble_eq_true rfl) ?_
                obtain ⟨hnr, h⟩ := h
                have hP9 := hP
                rw [hQ]
                exact W.zret hx hb hr hnr (fun t ht hW => ⟨⟨_, (Ob19, wb, dA, wA), rfl, pE_i h hBk, by rw [ht]; exact hP9, va_K.moved hW.alike hK, hD⟩, hS.F ht⟩) hS.2.2 dL_step_258
              · replace h := pf_t c20 h
                refine lv_iconst (v := 1) hx hb dL_step_253 (by decide) ?_
                refine lv_goto (tgt := 258) hx hb dL_step_254 (by decide) ?_
                refine W.widen (k := 24) (n := 1287) (Nat.le_of_ble_eq_true rfl) (Nat.le_of_ble_eq_true rfl) ?_
                obtain ⟨hnr, h⟩ := h
                have hP9 := hP
                rw [hQ]
                exact W.zret hx hb hr hnr (fun t ht hW => ⟨⟨_, (Ob19, wb, dA, wA), rfl, pE_i h hBk, by rw [ht]; exact hP9, va_K.moved hW.alike hK, hD⟩, hS.F ht⟩) hS.2.2 dL_step_258
  have BH_180 : ∀ (v6 : Int32) (v8 : Int32) (v9 : Int32) (v10 : Int32) (s0 : Int32) (s1 : Int32) (s2 : Int32) (Ob : OBk) (dA : Nat → Int32) (wA : Nat → Int32), BL_step_180 K9 v3 v4 v5 v6 v8 v9 v10 s0 s1 s2 Ob dA wA → ∀ (H : Heap) (locs : List Loc) (ls : Array Slot) (wb : va_W), isBk k a0 Ob wb → va_P D vwCl ([(qw, .inl (k 0, 6, .inl wA)), (qd, .inl (k 0, 3, .inl dA))] ++ wb) H → va_D A ([(qw, .inl (k 0, 6, .inl wA)), (qd, .inl (k 0, 3, .inl dA))] ++ wb) → va_S A s.heap H locs → lv_has ls 20 [(0, .ref a0), (4, .int v4), (6, .int v6), (8, .int v8), (9, .int v9), (10, .int v10)] → W p l e rmL_step s m args below meth c H locs 0 0 Q (F0 m 180 ls [.int s2, .int s1, .int s0]) := by
    intro  v6 v8 v9 v10 s0 s1 s2 Ob dA wA h H locs ls wb hBk hP hD hS hl
    unfold BL_step_180 at h
    obtain ⟨hz9, h⟩ := h
    refine lv_idiv hx hb dL_step_180 hz9 ?_
    exact BH_181  _ _ _ _ _ _ _ _ _ h _ _ _ _ hBk hP hD hS (lv_sub hl [0, 1, 2, 3, 4, 5] rfl)
  have BH_110 : ∀ (v6 : Int32) (v8 : Int32) (s0 : Int32) (Ob : OBk) (dA : Nat → Int32) (wA : Nat → Int32), BL_step_110 K9 v3 v4 v5 v6 v8 s0 Ob dA wA → ∀ (H : Heap) (locs : List Loc) (ls : Array Slot) (wb : va_W), isBk k a0 Ob wb → va_P D vwCl ([(qw, .inl (k 0, 6, .inl wA)), (qd, .inl (k 0, 3, .inl dA))] ++ wb) H → va_D A ([(qw, .inl (k 0, 6, .inl wA)), (qd, .inl (k 0, 3, .inl dA))] ++ wb) → va_S A s.heap H locs → lv_has ls 20 [(0, .ref a0), (2, .ref qw), (4, .int v4), (6, .int v6), (8, .int v8)] → W p l e rmL_step s m args below meth c H locs 0 0 Q (F0 m 110 ls [.int s0]) := by
    intro  v6 v8 s0 Ob dA wA h H locs ls wb hBk hP hD hS hl
    unfold BL_step_110 at h
    refine lv_istore (lv' := [(9, .int s0), (0, .ref a0), (2, .ref qw), (4, .int v4), (6, .int v6), (8, .int v8)]) hx hb dL_step_110 hl (by decide) rfl (fun ls hl => ?_)
    refine lv_aload_n hx hb dL_step_112 rfl (lv_at hl 2 rfl) ?_
    refine lv_iload hx hb dL_step_113 (lv_at hl 4 rfl) ?_
    refine lv_iconst (v := 0) hx hb dL_step_115 (by decide) ?_
    obtain ⟨hi4, h⟩ := h
    refine va_iast hx hb hK hP hD hS 0 0 rfl rfl hi4 dL_step_116 (fun H locs hP hD hS => ?_)
    replace hP : va_P D vwCl ([(qw, .inl (k 0, 6, .inl (upd wA (v6.toNatClampNeg) 0))), (qd, .inl (k 0, 3, .inl dA))] ++ wb) H := hP
    replace hD : va_D A ([(qw, .inl (k 0, 6, .inl (upd wA (v6.toNatClampNeg) 0))), (qd, .inl (k 0, 3, .inl dA))] ++ wb) := hD
    refine lv_aload_n hx hb dL_step_117 rfl (lv_at hl 1 rfl) ?_
    refine lv_iload hx hb dL_step_118 (lv_at hl 4 rfl) ?_
    refine lv_iload hx hb dL_step_120 (lv_at hl 3 rfl) ?_
    refine lv_bipush (v := 6) hx hb dL_step_122 (by decide) ?_
    refine lv_idiv hx hb dL_step_124 (by decide) ?_
    refine lv_sipush (v := 1999) hx hb dL_step_125 (by decide) ?_
    refine lv_irem hx hb dL_step_128 (by decide) ?_
    refine lv_sipush (v := 999) hx hb dL_step_129 (by decide) ?_
    refine lv_isub hx hb dL_step_132 ?_
    refine lv_iload hx hb dL_step_133 (lv_at hl 5 rfl) ?_
    refine lv_iload hx hb dL_step_135 (lv_at hl 0 rfl) ?_
    have hP2 : va_P D vwCl ([(qw, .inl (k 0, 6, .inl (upd wA (v6.toNatClampNeg) 0))), (qd, .inl (k 0, 3, .inl dA))] ++ wb) H := hP
    have hD2 : va_D A ([(qw, .inl (k 0, 6, .inl (upd wA (v6.toNatClampNeg) 0))), (qd, .inl (k 0, 3, .inl dA))] ++ wb) := hD
    have hPc := vs_r hP2
    have hDc := vd_r hD2
    have hFc := vs_free hDc hS hA
    obtain ⟨fs9, hb9⟩ := isBk_head hBk
    have hM9 := bk_shape l D k hBk h
    refine xc_iB (va_runV (mc := 0) (ms := 0) (As := [.int v6, .int ((jrem (v4 / 6) 1999) - 999), .int v8, .int s0]) (rest := []) ⟨hx, hb, hml, hown, hts⟩ (hM9 H.size) (cwV 4 hts gL_step_X6_shape rfl rfl rfl (by decide +kernel) ⟨Nat.le_of_ble_eq_true rfl, Nat.le_of_ble_eq_true rfl⟩) ⟨pn_blind, va_recv hK hPc (ci := 6) (q0 := 0) rfl hb9, pn_start hPc hK hDc hNW⟩ rfl rfl hl.1 rfl (lv_room (Nat.le_of_ble_eq_true rfl)) dL_step_137 ⟨Nat.le_of_ble_eq_true rfl, Nat.le_of_ble_eq_true rfl⟩) hS hFc (fun r5 Ob5 wb5 H1 locs h hBk9 hP1 hD1 hk1 hS => ?_)
    obtain ⟨hP, hD⟩ := vs_joinR hP2 hD2 hFc hk1 hP1 hD1
    clear hP1 hD1 hk1 hFc hPc hDc hP2 hD2
    replace hBk := hBk9
    clear hBk9
    generalize H1 = H at hP hS ⊢
    replace hP : va_P D vwCl ([(qw, .inl (k 0, 6, .inl (upd wA (v6.toNatClampNeg) 0))), (qd, .inl (k 0, 3, .inl dA))] ++ wb5) H := hP
    replace hD : va_D A ([(qw, .inl (k 0, 6, .inl (upd wA (v6.toNatClampNeg) 0))), (qd, .inl (k 0, 3, .inl dA))] ++ wb5) := hD
    obtain ⟨wb, hwb⟩ : ∃ z, z = wb5 := ⟨_, rfl⟩
    subst hwb
    clear hM9
    refine lv_istore (lv' := [(10, .int r5), (9, .int s0), (0, .ref a0), (2, .ref qw), (4, .int v4), (6, .int v6), (8, .int v8)]) hx hb dL_step_140 hl (by decide) rfl (fun ls hl => ?_)
    refine lv_iload hx hb dL_step_142 (lv_at hl 0 rfl) ?_
    refine lv_iload hx hb dL_step_144 (lv_at hl 6 rfl) ?_
    refine lv_if_ne (tgt := 153) hx hb dL_step_146 (by decide) (fun c6 => ?_) (fun c6 => ?_)
    · replace h := pf_f c6 h
      refine lv_iload hx hb dL_step_153 (lv_at hl 1 rfl) ?_
      refine lv_iload hx hb dL_step_155 (lv_at hl 1 rfl) ?_
      refine lv_imul hx hb dL_step_157 ?_
      refine lv_iload hx hb dL_step_158 (lv_at hl 6 rfl) ?_
      refine lv_iconst (v := 1) hx hb dL_step_160 (by decide) ?_
      refine lv_icmp_ne (tgt := 168) hx hb dL_step_161 (by decide) (fun c7 => ?_) (fun c7 => ?_)
      · replace h := pf_f c7 h
        refine lv_iload hx hb dL_step_168 (lv_at hl 6 rfl) ?_
        refine lv_iconst (v := 2) hx hb dL_step_170 (by decide) ?_
        refine lv_icmp_ne (tgt := 179) hx hb dL_step_171 (by decide) (fun c8 => ?_) (fun c8 => ?_)
        · replace h := pf_f c8 h
          refine lv_iconst (v := 2) hx hb dL_step_179 (by decide) ?_
          exact BH_180  _ _ _ _ _ _ _ _ _ _ h _ _ _ _ hBk hP hD hS (lv_sub hl [2, 4, 5, 6, 1, 0] rfl)
        · replace h := pf_t c8 h
          refine lv_bipush (v := 6) hx hb dL_step_174 (by decide) ?_
          refine lv_goto (tgt := 180) hx hb dL_step_176 (by decide) ?_
          exact BH_180  _ _ _ _ _ _ _ _ _ _ h _ _ _ _ hBk hP hD hS (lv_sub hl [2, 4, 5, 6, 1, 0] rfl)
      · replace h := pf_t c7 h
        refine lv_iconst (v := 3) hx hb dL_step_164 (by decide) ?_
        refine lv_goto (tgt := 180) hx hb dL_step_165 (by decide) ?_
        exact BH_180  _ _ _ _ _ _ _ _ _ _ h _ _ _ _ hBk hP hD hS (lv_sub hl [2, 4, 5, 6, 1, 0] rfl)
    · replace h := pf_t c6 h
      refine lv_iconst (v := 0) hx hb dL_step_149 (by decide) ?_
      refine lv_goto (tgt := 181) hx hb dL_step_150 (by decide) ?_
      exact BH_181  _ _ _ _ _ _ _ _ _ h _ _ _ _ hBk hP hD hS (lv_sub hl [2, 4, 5, 6, 1, 0] rfl)
  have BH_88 : ∀ (v6 : Int32) (Ob : OBk) (dA : Nat → Int32) (wA : Nat → Int32), BL_step_88 K9 v3 v4 v5 v6 Ob dA wA → ∀ (H : Heap) (locs : List Loc) (ls : Array Slot) (wb : va_W), isBk k a0 Ob wb → va_P D vwCl ([(qw, .inl (k 0, 6, .inl wA)), (qd, .inl (k 0, 3, .inl dA))] ++ wb) H → va_D A ([(qw, .inl (k 0, 6, .inl wA)), (qd, .inl (k 0, 3, .inl dA))] ++ wb) → va_S A s.heap H locs → lv_has ls 20 [(0, .ref a0), (2, .ref qw), (4, .int v4), (5, .int v5), (6, .int v6)] → W p l e rmL_step s m args below meth c H locs 0 0 Q (F0 m 88 ls []) := by
    intro  v6 Ob dA wA h H locs ls wb hBk hP hD hS hl
    unfold BL_step_88 at h
    refine lv_iload hx hb dL_step_88 (lv_at hl 3 rfl) ?_
    refine lv_iconst (v := 4) hx hb dL_step_90 (by decide) ?_
    refine lv_irem hx hb dL_step_91 (by decide) ?_
    refine lv_istore (lv' := [(8, .int (jrem v5 4)), (0, .ref a0), (2, .ref qw), (4, .int v4), (5, .int v5), (6, .int v6)]) hx hb dL_step_92 hl (by decide) rfl (fun ls hl => ?_)
    refine lv_iload hx hb dL_step_94 (lv_at hl 0 rfl) ?_
    refine lv_if_ne (tgt := 103) hx hb dL_step_96 (by decide) (fun c3 => ?_) (fun c3 => ?_)
    · replace h := pf_f c3 h
      refine lv_iload hx hb dL_step_103 (lv_at hl 4 rfl) ?_
      refine lv_iconst (v := 4) hx hb dL_step_105 (by decide) ?_
      refine lv_idiv hx hb dL_step_106 (by decide) ?_
      refine lv_bipush (v := 100) hx hb dL_step_107 (by decide) ?_
      refine lv_irem hx hb dL_step_109 (by decide) ?_
      exact BH_110  _ _ _ _ _ _ h _ _ _ _ hBk hP hD hS (lv_sub hl [1, 2, 3, 5, 0] rfl)
    · replace h := pf_t c3 h
      refine lv_iconst (v := 0) hx hb dL_step_99 (by decide) ?_
      refine lv_goto (tgt := 110) hx hb dL_step_100 (by decide) ?_
      exact BH_110  _ _ _ _ _ _ h _ _ _ _ hBk hP hD hS (lv_sub hl [1, 2, 3, 5, 0] rfl)
  have BH_259 : ∀ (v6 : Int32) (Ob : OBk) (dA : Nat → Int32) (wA : Nat → Int32), BL_step_259 K9 v3 v4 v5 v6 Ob dA wA → ∀ (H : Heap) (locs : List Loc) (ls : Array Slot) (wb : va_W), isBk k a0 Ob wb → va_P D vwCl ([(qw, .inl (k 0, 6, .inl wA)), (qd, .inl (k 0, 3, .inl dA))] ++ wb) H → va_D A ([(qw, .inl (k 0, 6, .inl wA)), (qd, .inl (k 0, 3, .inl dA))] ++ wb) → va_S A s.heap H locs → lv_has ls 20 [(0, .ref a0), (2, .ref qw), (5, .int v5), (6, .int v6)] → W p l e rmL_step s m args below meth c H locs 0 0 Q (F0 m 259 ls []) := by
    intro  v6 Ob dA wA h H locs ls wb hBk hP hD hS hl
    unfold BL_step_259 at h
    refine lv_aload_n hx hb dL_step_259 rfl (lv_at hl 0 rfl) ?_
    refine lv_iload hx hb dL_step_260 (lv_at hl 3 rfl) ?_
    refine lv_iload hx hb dL_step_262 (lv_at hl 2 rfl) ?_
    refine lv_sipush (v := 1999) hx hb dL_step_264 (by decide) ?_
    refine lv_irem hx hb dL_step_267 (by decide) ?_
    refine lv_sipush (v := 999) hx hb dL_step_268 (by decide) ?_
    refine lv_isub hx hb dL_step_271 ?_
    have hP2 : va_P D vwCl ([(qw, .inl (k 0, 6, .inl wA)), (qd, .inl (k 0, 3, .inl dA))] ++ wb) H := hP
    have hD2 : va_D A ([(qw, .inl (k 0, 6, .inl wA)), (qd, .inl (k 0, 3, .inl dA))] ++ wb) := hD
    have hPc := vs_r hP2
    have hDc := vd_r hD2
    have hFc := vs_free hDc hS hA
    have hM9 := met_L_reads l hst D k hBk h
    refine xc_iB (vx_runSW (mc := 1) (ms := 6) (As := [.ref a0, .int v6, .int ((jrem v5 1999) - 999)]) (rest := []) ⟨hx, hb, hml, hown, hts⟩ (hM9 H.size) (vx_cwSW 3 hts gL_step_L_reads rfl rfl rfl (by decide +kernel) ⟨Nat.le_of_ble_eq_true rfl, Nat.le_of_ble_eq_true rfl⟩) ⟨pz_blind, pz_start hPc hK hDc (hXP.keep hS.2.1) hNW hFc⟩ rfl rfl hl.1 rfl (lv_room (Nat.le_of_ble_eq_true rfl)) dL_step_272 ⟨Nat.le_of_ble_eq_true rfl, Nat.le_of_ble_eq_true rfl⟩) hS hFc (fun r23 Ob23 wb23 H1 locs h hBk9 hP1 hD1 hk1 hS => ?_)
    obtain ⟨hP, hD⟩ := vs_joinR hP2 hD2 hFc hk1 hP1 hD1
    clear hP1 hD1 hk1 hFc hPc hDc hP2 hD2
    replace hBk := hBk9
    clear hBk9
    generalize H1 = H at hP hS ⊢
    replace hP : va_P D vwCl ([(qw, .inl (k 0, 6, .inl wA)), (qd, .inl (k 0, 3, .inl dA))] ++ wb23) H := hP
    replace hD : va_D A ([(qw, .inl (k 0, 6, .inl wA)), (qd, .inl (k 0, 3, .inl dA))] ++ wb23) := hD
    obtain ⟨wb, hwb⟩ : ∃ z, z = wb23 := ⟨_, rfl⟩
    subst hwb
    clear hM9
    refine lv_istore (lv' := [(11, .int r23), (0, .ref a0), (2, .ref qw), (5, .int v5), (6, .int v6)]) hx hb dL_step_275 hl (by decide) rfl (fun ls hl => ?_)
    refine lv_iload hx hb dL_step_277 (lv_at hl 0 rfl) ?_
    refine lv_bipush (v := -2) hx hb dL_step_279 (by decide) ?_
    refine lv_icmp_ne (tgt := 299) hx hb dL_step_281 (by decide) (fun c24 => ?_) (fun c24 => ?_)
    · replace h := pf_f c24 h
      refine lv_aload_n hx hb dL_step_299 rfl (lv_at hl 2 rfl) ?_
      refine lv_iload hx hb dL_step_300 (lv_at hl 4 rfl) ?_
      refine lv_dup2_11 hx hb dL_step_302 rfl rfl ?_
      obtain ⟨hi25, h⟩ := h
      refine va_iald hx hb hK hP 0 0 rfl rfl hi25 dL_step_303 ?_
      refine lv_iconst (v := 1) hx hb dL_step_304 (by decide) ?_
      refine lv_iadd hx hb dL_step_305 ?_
      obtain ⟨hi26, h⟩ := h
      refine va_iast hx hb hK hP hD hS 0 0 rfl rfl hi26 dL_step_306 (fun H locs hP hD hS => ?_)
      replace hP : va_P D vwCl ([(qw, .inl (k 0, 6, .inl (upd wA (v6.toNatClampNeg) ((wA v6.toNatClampNeg) + 1)))), (qd, .inl (k 0, 3, .inl dA))] ++ wb) H := hP
      replace hD : va_D A ([(qw, .inl (k 0, 6, .inl (upd wA (v6.toNatClampNeg) ((wA v6.toNatClampNeg) + 1)))), (qd, .inl (k 0, 3, .inl dA))] ++ wb) := hD
      refine lv_iload hx hb dL_step_307 (lv_at hl 0 rfl) ?_
      refine lv_if_lt (tgt := 402) hx hb dL_step_309 (by decide) (fun c27 => ?_) (fun c27 => ?_)
      · replace h := pf_t c27 h
        refine lv_iconst (v := 0) hx hb dL_step_402 (by decide) ?_
        refine W.widen (k := 24) (n := 1287) (Nat.le_of_ble_eq_true rfl) (Nat.le_of_ble_eq_true rfl) ?_
        obtain ⟨hnr, h⟩ := h
        have hP9 := hP
        rw [hQ]
        exact W.zret hx hb hr hnr (fun t ht hW => ⟨⟨_, (Ob23, wb, dA, upd wA (v6.toNatClampNeg) ((wA v6.toNatClampNeg) + 1)), rfl, pE_i h hBk, by rw [ht]; exact hP9, va_K.moved hW.alike hK, hD⟩, hS.F ht⟩) hS.2.2 dL_step_403
      · replace h := pf_f c27 h
        refine lv_aload_n hx hb dL_step_312 rfl (lv_at hl 1 rfl) ?_
        refine lv_iload hx hb dL_step_313 (lv_at hl 4 rfl) ?_
        refine lv_iconst (v := 1) hx hb dL_step_315 (by decide) ?_
        have hP2 : va_P D vwCl ([(qw, .inl (k 0, 6, .inl (upd wA (v6.toNatClampNeg) ((wA v6.toNatClampNeg) + 1)))), (qd, .inl (k 0, 3, .inl dA))] ++ wb) H := hP
        have hD2 : va_D A ([(qw, .inl (k 0, 6, .inl (upd wA (v6.toNatClampNeg) ((wA v6.toNatClampNeg) + 1)))), (qd, .inl (k 0, 3, .inl dA))] ++ wb) := hD
        have hPc := vs_r hP2
        have hDc := vd_r hD2
        have hFc := vs_free hDc hS hA
        obtain ⟨fs9, hb9⟩ := isBk_head hBk
        have hM9 := bk_input l D k hBk h
        refine xc_iB (va_runV (mc := 0) (ms := 0) (As := [.int v6, .int 1]) (rest := []) ⟨hx, hb, hml, hown, hts⟩ (hM9 H.size) (cwV 2 hts gL_step_X6_input rfl rfl rfl (by decide +kernel) ⟨Nat.le_of_ble_eq_true rfl, Nat.le_of_ble_eq_true rfl⟩) ⟨pn_blind, va_recv hK hPc (ci := 6) (q0 := 0) rfl hb9, pn_start hPc hK hDc hNW⟩ rfl rfl hl.1 rfl (lv_room (Nat.le_of_ble_eq_true rfl)) dL_step_316 ⟨Nat.le_of_ble_eq_true rfl, Nat.le_of_ble_eq_true rfl⟩) hS hFc (fun r28 Ob28 wb28 H1 locs h hBk9 hP1 hD1 hk1 hS => ?_)
        obtain ⟨hP, hD⟩ := vs_joinR hP2 hD2 hFc hk1 hP1 hD1
        clear hP1 hD1 hk1 hFc hPc hDc hP2 hD2
        replace hBk := hBk9
        clear hBk9
        generalize H1 = H at hP hS ⊢
        replace hP : va_P D vwCl ([(qw, .inl (k 0, 6, .inl (upd wA (v6.toNatClampNeg) ((wA v6.toNatClampNeg) + 1)))), (qd, .inl (k 0, 3, .inl dA))] ++ wb28) H := hP
        replace hD : va_D A ([(qw, .inl (k 0, 6, .inl (upd wA (v6.toNatClampNeg) ((wA v6.toNatClampNeg) + 1)))), (qd, .inl (k 0, 3, .inl dA))] ++ wb28) := hD
        obtain ⟨wb, hwb⟩ : ∃ z, z = wb28 := ⟨_, rfl⟩
        subst hwb
        clear hM9
        refine lv_iload hx hb dL_step_319 (lv_at hl 0 rfl) ?_
        refine lv_icmp_ne (tgt := 402) hx hb dL_step_321 (by decide) (fun c29 => ?_) (fun c29 => ?_)
        · replace h := pf_f c29 h
          refine lv_iconst (v := 0) hx hb dL_step_402 (by decide) ?_
          refine W.widen (k := 24) (n := 1287) (Nat.le_of_ble_eq_true rfl) (Nat.le_of_ble_eq_true rfl) ?_
          obtain ⟨hnr, h⟩ := h
          have hP9 := hP
          rw [hQ]
          exact W.zret hx hb hr hnr (fun t ht hW => ⟨⟨_, (Ob28, wb, dA, upd wA (v6.toNatClampNeg) ((wA v6.toNatClampNeg) + 1)), rfl, pE_i h hBk, by rw [ht]; exact hP9, va_K.moved hW.alike hK, hD⟩, hS.F ht⟩) hS.2.2 dL_step_403
        · replace h := pf_t c29 h
          refine lv_aload_n hx hb dL_step_324 rfl (lv_at hl 1 rfl) ?_
          refine lv_iload hx hb dL_step_325 (lv_at hl 4 rfl) ?_
          refine lv_iconst (v := 2) hx hb dL_step_327 (by decide) ?_
          have hP2 : va_P D vwCl ([(qw, .inl (k 0, 6, .inl (upd wA (v6.toNatClampNeg) ((wA v6.toNatClampNeg) + 1)))), (qd, .inl (k 0, 3, .inl dA))] ++ wb) H := hP
          have hD2 : va_D A ([(qw, .inl (k 0, 6, .inl (upd wA (v6.toNatClampNeg) ((wA v6.toNatClampNeg) + 1)))), (qd, .inl (k 0, 3, .inl dA))] ++ wb) := hD
          have hPc := vs_r hP2
          have hDc := vd_r hD2
          have hFc := vs_free hDc hS hA
          obtain ⟨fs9, hb9⟩ := isBk_head hBk
          have hM9 := bk_input l D k hBk h
          refine xc_iB (va_runV (mc := 0) (ms := 0) (As := [.int v6, .int 2]) (rest := []) ⟨hx, hb, hml, hown, hts⟩ (hM9 H.size) (cwV 2 hts gL_step_X6_input rfl rfl rfl (by decide +kernel) ⟨Nat.le_of_ble_eq_true rfl, Nat.le_of_ble_eq_true rfl⟩) ⟨pn_blind, va_recv hK hPc (ci := 6) (q0 := 0) rfl hb9, pn_start hPc hK hDc hNW⟩ rfl rfl hl.1 rfl (lv_room (Nat.le_of_ble_eq_true rfl)) dL_step_328 ⟨Nat.le_of_ble_eq_true rfl, Nat.le_of_ble_eq_true rfl⟩) hS hFc (fun r30 Ob30 wb30 H1 locs h hBk9 hP1 hD1 hk1 hS => ?_)
          obtain ⟨hP, hD⟩ := vs_joinR hP2 hD2 hFc hk1 hP1 hD1
          clear hP1 hD1 hk1 hFc hPc hDc hP2 hD2
          replace hBk := hBk9
          clear hBk9
          generalize H1 = H at hP hS ⊢
          replace hP : va_P D vwCl ([(qw, .inl (k 0, 6, .inl (upd wA (v6.toNatClampNeg) ((wA v6.toNatClampNeg) + 1)))), (qd, .inl (k 0, 3, .inl dA))] ++ wb30) H := hP
          replace hD : va_D A ([(qw, .inl (k 0, 6, .inl (upd wA (v6.toNatClampNeg) ((wA v6.toNatClampNeg) + 1)))), (qd, .inl (k 0, 3, .inl dA))] ++ wb30) := hD
          obtain ⟨wb, hwb⟩ : ∃ z, z = wb30 := ⟨_, rfl⟩
          subst hwb
          clear hM9
          refine lv_iconst (v := 4) hx hb dL_step_331 (by decide) ?_
          refine lv_icmp_ne (tgt := 402) hx hb dL_step_332 (by decide) (fun c31 => ?_) (fun c31 => ?_)
          · replace h := pf_f c31 h
            refine lv_iconst (v := 0) hx hb dL_step_402 (by decide) ?_
            refine W.widen (k := 24) (n := 1287) (Nat.le_of_ble_eq_true rfl) (Nat.le_of_ble_eq_true rfl) ?_
            obtain ⟨hnr, h⟩ := h
            have hP9 := hP
            rw [hQ]
            exact W.zret hx hb hr hnr (fun t ht hW => ⟨⟨_, (Ob30, wb, dA, upd wA (v6.toNatClampNeg) ((wA v6.toNatClampNeg) + 1)), rfl, pE_i h hBk, by rw [ht]; exact hP9, va_K.moved hW.alike hK, hD⟩, hS.F ht⟩) hS.2.2 dL_step_403
          · replace h := pf_t c31 h
            refine lv_aload_n hx hb dL_step_335 rfl (lv_at hl 1 rfl) ?_
            refine lv_iload hx hb dL_step_336 (lv_at hl 4 rfl) ?_
            refine lv_iconst (v := 3) hx hb dL_step_338 (by decide) ?_
            have hP2 : va_P D vwCl ([(qw, .inl (k 0, 6, .inl (upd wA (v6.toNatClampNeg) ((wA v6.toNatClampNeg) + 1)))), (qd, .inl (k 0, 3, .inl dA))] ++ wb) H := hP
            have hD2 : va_D A ([(qw, .inl (k 0, 6, .inl (upd wA (v6.toNatClampNeg) ((wA v6.toNatClampNeg) + 1)))), (qd, .inl (k 0, 3, .inl dA))] ++ wb) := hD
            have hPc := vs_r hP2
            have hDc := vd_r hD2
            have hFc := vs_free hDc hS hA
            obtain ⟨fs9, hb9⟩ := isBk_head hBk
            have hM9 := bk_input l D k hBk h
            refine xc_iB (va_runV (mc := 0) (ms := 0) (As := [.int v6, .int 3]) (rest := []) ⟨hx, hb, hml, hown, hts⟩ (hM9 H.size) (cwV 2 hts gL_step_X6_input rfl rfl rfl (by decide +kernel) ⟨Nat.le_of_ble_eq_true rfl, Nat.le_of_ble_eq_true rfl⟩) ⟨pn_blind, va_recv hK hPc (ci := 6) (q0 := 0) rfl hb9, pn_start hPc hK hDc hNW⟩ rfl rfl hl.1 rfl (lv_room (Nat.le_of_ble_eq_true rfl)) dL_step_339 ⟨Nat.le_of_ble_eq_true rfl, Nat.le_of_ble_eq_true rfl⟩) hS hFc (fun r32 Ob32 wb32 H1 locs h hBk9 hP1 hD1 hk1 hS => ?_)
            obtain ⟨hP, hD⟩ := vs_joinR hP2 hD2 hFc hk1 hP1 hD1
            clear hP1 hD1 hk1 hFc hPc hDc hP2 hD2
            replace hBk := hBk9
            clear hBk9
            generalize H1 = H at hP hS ⊢
            replace hP : va_P D vwCl ([(qw, .inl (k 0, 6, .inl (upd wA (v6.toNatClampNeg) ((wA v6.toNatClampNeg) + 1)))), (qd, .inl (k 0, 3, .inl dA))] ++ wb32) H := hP
            replace hD : va_D A ([(qw, .inl (k 0, 6, .inl (upd wA (v6.toNatClampNeg) ((wA v6.toNatClampNeg) + 1)))), (qd, .inl (k 0, 3, .inl dA))] ++ wb32) := hD
            obtain ⟨wb, hwb⟩ : ∃ z, z = wb32 := ⟨_, rfl⟩
            subst hwb
            clear hM9
            refine lv_aload_n hx hb dL_step_342 rfl (lv_at hl 2 rfl) ?_
            refine lv_iload hx hb dL_step_343 (lv_at hl 4 rfl) ?_
            obtain ⟨hi33, h⟩ := h
            refine va_iald hx hb hK hP 0 0 rfl rfl hi33 dL_step_345 ?_
            refine lv_iconst (v := 1) hx hb dL_step_346 (by decide) ?_
            refine lv_isub hx hb dL_step_347 ?_
            refine lv_icmp_ne (tgt := 402) hx hb dL_step_348 (by decide) (fun c34 => ?_) (fun c34 => ?_)
            · replace h := pf_f c34 h
              refine lv_iconst (v := 0) hx hb dL_step_402 (by decide) ?_
              refine W.widen (k := 24) (n := 1287) (Nat.le_of_ble_eq_true rfl) (Nat.le_of_ble_eq_true rfl) ?_
              obtain ⟨hnr, h⟩ := h
              have hP9 := hP
              rw [hQ]
              exact W.zret hx hb hr hnr (fun t ht hW => ⟨⟨_, (Ob32, wb, dA, upd wA (v6.toNatClampNeg) ((wA v6.toNatClampNeg) + 1)), rfl, pE_i h hBk, by rw [ht]; exact hP9, va_K.moved hW.alike hK, hD⟩, hS.F ht⟩) hS.2.2 dL_step_403
            · replace h := pf_t c34 h
              refine lv_aload_n hx hb dL_step_351 rfl (lv_at hl 1 rfl) ?_
              refine lv_iload hx hb dL_step_352 (lv_at hl 4 rfl) ?_
              refine lv_iconst (v := 4) hx hb dL_step_354 (by decide) ?_
              have hP2 : va_P D vwCl ([(qw, .inl (k 0, 6, .inl (upd wA (v6.toNatClampNeg) ((wA v6.toNatClampNeg) + 1)))), (qd, .inl (k 0, 3, .inl dA))] ++ wb) H := hP
              have hD2 : va_D A ([(qw, .inl (k 0, 6, .inl (upd wA (v6.toNatClampNeg) ((wA v6.toNatClampNeg) + 1)))), (qd, .inl (k 0, 3, .inl dA))] ++ wb) := hD
              have hPc := vs_r hP2
              have hDc := vd_r hD2
              have hFc := vs_free hDc hS hA
              obtain ⟨fs9, hb9⟩ := isBk_head hBk
              have hM9 := bk_input l D k hBk h
              refine xc_iB (va_runV (mc := 0) (ms := 0) (As := [.int v6, .int 4]) (rest := []) ⟨hx, hb, hml, hown, hts⟩ (hM9 H.size) (cwV 2 hts gL_step_X6_input rfl rfl rfl (by decide +kernel) ⟨Nat.le_of_ble_eq_true rfl, Nat.le_of_ble_eq_true rfl⟩) ⟨pn_blind, va_recv hK hPc (ci := 6) (q0 := 0) rfl hb9, pn_start hPc hK hDc hNW⟩ rfl rfl hl.1 rfl (lv_room (Nat.le_of_ble_eq_true rfl)) dL_step_355 ⟨Nat.le_of_ble_eq_true rfl, Nat.le_of_ble_eq_true rfl⟩) hS hFc (fun r35 Ob35 wb35 H1 locs h hBk9 hP1 hD1 hk1 hS => ?_)
              obtain ⟨hP, hD⟩ := vs_joinR hP2 hD2 hFc hk1 hP1 hD1
              clear hP1 hD1 hk1 hFc hPc hDc hP2 hD2
              replace hBk := hBk9
              clear hBk9
              generalize H1 = H at hP hS ⊢
              replace hP : va_P D vwCl ([(qw, .inl (k 0, 6, .inl (upd wA (v6.toNatClampNeg) ((wA v6.toNatClampNeg) + 1)))), (qd, .inl (k 0, 3, .inl dA))] ++ wb35) H := hP
              replace hD : va_D A ([(qw, .inl (k 0, 6, .inl (upd wA (v6.toNatClampNeg) ((wA v6.toNatClampNeg) + 1)))), (qd, .inl (k 0, 3, .inl dA))] ++ wb35) := hD
              obtain ⟨wb, hwb⟩ : ∃ z, z = wb35 := ⟨_, rfl⟩
              subst hwb
              clear hM9
              refine lv_aload_n hx hb dL_step_358 rfl (lv_at hl 2 rfl) ?_
              refine lv_iload hx hb dL_step_359 (lv_at hl 4 rfl) ?_
              obtain ⟨hi36, h⟩ := h
              refine va_iald hx hb hK hP 0 0 rfl rfl hi36 dL_step_361 ?_
              refine lv_icmp_ne (tgt := 402) hx hb dL_step_362 (by decide) (fun c37 => ?_) (fun c37 => ?_)
              · replace h := pf_f c37 h
                refine lv_iconst (v := 0) hx hb dL_step_402 (by decide) ?_
                refine W.widen (k := 24) (n := 1287) (Nat.le_of_ble_eq_true rfl) (Nat.le_of_ble_eq_true rfl) ?_
                obtain ⟨hnr, h⟩ := h
                have hP9 := hP
                rw [hQ]
                exact W.zret hx hb hr hnr (fun t ht hW => ⟨⟨_, (Ob35, wb, dA, upd wA (v6.toNatClampNeg) ((wA v6.toNatClampNeg) + 1)), rfl, pE_i h hBk, by rw [ht]; exact hP9, va_K.moved hW.alike hK, hD⟩, hS.F ht⟩) hS.2.2 dL_step_403
              · replace h := pf_t c37 h
                refine lv_aload_n hx hb dL_step_365 rfl (lv_at hl 2 rfl) ?_
                refine lv_iload hx hb dL_step_366 (lv_at hl 4 rfl) ?_
                obtain ⟨hi38, h⟩ := h
                refine va_iald hx hb hK hP 0 0 rfl rfl hi38 dL_step_368 ?_
                refine lv_iconst (v := 1) hx hb dL_step_369 (by decide) ?_
                refine lv_icmp_gt (tgt := 398) hx hb dL_step_370 (by decide) (fun c39 => ?_) (fun c39 => ?_)
                · replace h := pf_t c39 h
                  refine lv_iconst (v := 1) hx hb dL_step_398 (by decide) ?_
                  refine lv_goto (tgt := 403) hx hb dL_step_399 (by decide) ?_
                  refine W.widen (k := 24) (n := 1287) (Nat.le_of_ble_eq_true rfl) (Nat.le_of_ble_eq_true rfl) ?_
                  obtain ⟨hnr, h⟩ := h
                  have hP9 := hP
                  rw [hQ]
                  exact W.zret hx hb hr hnr (fun t ht hW => ⟨⟨_, (Ob35, wb, dA, upd wA (v6.toNatClampNeg) ((wA v6.toNatClampNeg) + 1)), rfl, pE_i h hBk, by rw [ht]; exact hP9, va_K.moved hW.alike hK, hD⟩, hS.F ht⟩) hS.2.2 dL_step_403
                · replace h := pf_f c39 h
                  refine lv_aload_n hx hb dL_step_373 rfl (lv_at hl 1 rfl) ?_
                  refine lv_iload hx hb dL_step_374 (lv_at hl 4 rfl) ?_
                  refine lv_iconst (v := 0) hx hb dL_step_376 (by decide) ?_
                  have hP2 : va_P D vwCl ([(qw, .inl (k 0, 6, .inl (upd wA (v6.toNatClampNeg) ((wA v6.toNatClampNeg) + 1)))), (qd, .inl (k 0, 3, .inl dA))] ++ wb) H := hP
                  have hD2 : va_D A ([(qw, .inl (k 0, 6, .inl (upd wA (v6.toNatClampNeg) ((wA v6.toNatClampNeg) + 1)))), (qd, .inl (k 0, 3, .inl dA))] ++ wb) := hD
                  have hPc := vs_r hP2
                  have hDc := vd_r hD2
                  have hFc := vs_free hDc hS hA
                  obtain ⟨fs9, hb9⟩ := isBk_head hBk
                  have hM9 := bk_input l D k hBk h
                  refine xc_iB (va_runV (mc := 0) (ms := 0) (As := [.int v6, .int 0]) (rest := []) ⟨hx, hb, hml, hown, hts⟩ (hM9 H.size) (cwV 2 hts gL_step_X6_input rfl rfl rfl (by decide +kernel) ⟨Nat.le_of_ble_eq_true rfl, Nat.le_of_ble_eq_true rfl⟩) ⟨pn_blind, va_recv hK hPc (ci := 6) (q0 := 0) rfl hb9, pn_start hPc hK hDc hNW⟩ rfl rfl hl.1 rfl (lv_room (Nat.le_of_ble_eq_true rfl)) dL_step_377 ⟨Nat.le_of_ble_eq_true rfl, Nat.le_of_ble_eq_true rfl⟩) hS hFc (fun r40 Ob40 wb40 H1 locs h hBk9 hP1 hD1 hk1 hS => ?_)
                  obtain ⟨hP, hD⟩ := vs_joinR hP2 hD2 hFc hk1 hP1 hD1
                  clear hP1 hD1 hk1 hFc hPc hDc hP2 hD2
                  replace hBk := hBk9
                  clear hBk9
                  generalize H1 = H at hP hS ⊢
                  replace hP : va_P D vwCl ([(qw, .inl (k 0, 6, .inl (upd wA (v6.toNatClampNeg) ((wA v6.toNatClampNeg) + 1)))), (qd, .inl (k 0, 3, .inl dA))] ++ wb40) H := hP
                  replace hD : va_D A ([(qw, .inl (k 0, 6, .inl (upd wA (v6.toNatClampNeg) ((wA v6.toNatClampNeg) + 1)))), (qd, .inl (k 0, 3, .inl dA))] ++ wb40) := hD
                  obtain ⟨wb, hwb⟩ : ∃ z, z = wb40 := ⟨_, rfl⟩
                  subst hwb
                  clear hM9
                  refine lv_iload hx hb dL_step_380 (lv_at hl 3 rfl) ?_
                  refine lv_sipush (v := 1999) hx hb dL_step_382 (by decide) ?_
                  refine lv_irem hx hb dL_step_385 (by decide) ?_
                  refine lv_sipush (v := 999) hx hb dL_step_386 (by decide) ?_
                  refine lv_isub hx hb dL_step_389 ?_
                  refine lv_icmp_ne (tgt := 402) hx hb dL_step_390 (by decide) (fun c41 => ?_) (fun c41 => ?_)
                  · replace h := pf_f c41 h
                    refine lv_iconst (v := 0) hx hb dL_step_402 (by decide) ?_
                    refine W.widen (k := 24) (n := 1287) (Nat.le_of_ble_eq_true rfl) (Nat.le_of_ble_eq_true rfl) ?_
                    obtain ⟨hnr, h⟩ := h
                    have hP9 := hP
                    rw [hQ]
                    exact W.zret hx hb hr hnr (fun t ht hW => ⟨⟨_, (Ob40, wb, dA, upd wA (v6.toNatClampNeg) ((wA v6.toNatClampNeg) + 1)), rfl, pE_i h hBk, by rw [ht]; exact hP9, va_K.moved hW.alike hK, hD⟩, hS.F ht⟩) hS.2.2 dL_step_403
                  · replace h := pf_t c41 h
                    refine lv_iload hx hb dL_step_393 (lv_at hl 0 rfl) ?_
                    refine lv_if_ne (tgt := 402) hx hb dL_step_395 (by decide) (fun c42 => ?_) (fun c42 => ?_)
                    · replace h := pf_f c42 h
                      refine lv_iconst (v := 0) hx hb dL_step_402 (by decide) ?_
                      refine W.widen (k := 24) (n := 1287) (Nat.le_of_ble_eq_true rfl) (Nat.le_of_ble_eq_true rfl) ?_
                      obtain ⟨hnr, h⟩ := h
                      have hP9 := hP
                      rw [hQ]
                      exact W.zret hx hb hr hnr (fun t ht hW => ⟨⟨_, (Ob40, wb, dA, upd wA (v6.toNatClampNeg) ((wA v6.toNatClampNeg) + 1)), rfl, pE_i h hBk, by rw [ht]; exact hP9, va_K.moved hW.alike hK, hD⟩, hS.F ht⟩) hS.2.2 dL_step_403
                    · replace h := pf_t c42 h
                      refine lv_iconst (v := 1) hx hb dL_step_398 (by decide) ?_
                      refine lv_goto (tgt := 403) hx hb dL_step_399 (by decide) ?_
                      refine W.widen (k := 24) (n := 1287) (Nat.le_of_ble_eq_true rfl) (Nat.le_of_ble_eq_true rfl) ?_
                      obtain ⟨hnr, h⟩ := h
                      have hP9 := hP
                      rw [hQ]
                      exact W.zret hx hb hr hnr (fun t ht hW => ⟨⟨_, (Ob40, wb, dA, upd wA (v6.toNatClampNeg) ((wA v6.toNatClampNeg) + 1)), rfl, pE_i h hBk, by rw [ht]; exact hP9, va_K.moved hW.alike hK, hD⟩, hS.F ht⟩) hS.2.2 dL_step_403
    · replace h := pf_t c24 h
      refine lv_aload_n hx hb dL_step_284 rfl (lv_at hl 2 rfl) ?_
      refine lv_iload hx hb dL_step_285 (lv_at hl 4 rfl) ?_
      obtain ⟨hi43, h⟩ := h
      refine va_iald hx hb hK hP 0 0 rfl rfl hi43 dL_step_287 ?_
      refine lv_bipush (v := 8) hx hb dL_step_288 (by decide) ?_
      refine lv_icmp_ne (tgt := 297) hx hb dL_step_290 (by decide) (fun c44 => ?_) (fun c44 => ?_)
      · replace h := pf_f c44 h
        refine lv_iconst (v := 0) hx hb dL_step_297 (by decide) ?_
        refine W.widen (k := 24) (n := 1287) (Nat.le_of_ble_eq_true rfl) (Nat.le_of_ble_eq_true rfl) ?_
        obtain ⟨hnr, h⟩ := h
        have hP9 := hP
        rw [hQ]
        exact W.zret hx hb hr hnr (fun t ht hW => ⟨⟨_, (Ob23, wb, dA, wA), rfl, pE_i h hBk, by rw [ht]; exact hP9, va_K.moved hW.alike hK, hD⟩, hS.F ht⟩) hS.2.2 dL_step_298
      · replace h := pf_t c44 h
        refine lv_iconst (v := 1) hx hb dL_step_293 (by decide) ?_
        refine lv_goto (tgt := 298) hx hb dL_step_294 (by decide) ?_
        refine W.widen (k := 24) (n := 1287) (Nat.le_of_ble_eq_true rfl) (Nat.le_of_ble_eq_true rfl) ?_
        obtain ⟨hnr, h⟩ := h
        have hP9 := hP
        rw [hQ]
        exact W.zret hx hb hr hnr (fun t ht hW => ⟨⟨_, (Ob23, wb, dA, wA), rfl, pE_i h hBk, by rw [ht]; exact hP9, va_K.moved hW.alike hK, hD⟩, hS.F ht⟩) hS.2.2 dL_step_298
  have BH_460 : ∀ (K : Int32 → Int32 → Int32 → OBk → (Nat → Int32) → (Nat → Int32) → Prop) (hKK : ∀ (v12 : Int32) (v13 : Int32) (v14 : Int32) (Ob : OBk) (dA : Nat → Int32) (wA : Nat → Int32), K v12 v13 v14 Ob dA wA → ∀ (H : Heap) (locs : List Loc) (ls : Array Slot) (wb : va_W), isBk k a0 Ob wb → va_P D vwCl ([(qw, .inl (k 0, 6, .inl wA)), (qd, .inl (k 0, 3, .inl dA))] ++ wb) H → va_D A ([(qw, .inl (k 0, 6, .inl wA)), (qd, .inl (k 0, 3, .inl dA))] ++ wb) → va_S A s.heap H locs → lv_has ls 20 [(0, .ref a0), (1, .ref qd), (12, .int v12), (13, .int v13), (14, .int v14)] → W p l e rmL_step s m args below meth c H locs 0 0 Q (F0 m 435 ls [])) (E469 : Int32 → Int32 → OBk → (Nat → Int32) → (Nat → Int32) → Prop) (hE469 : ∀ (v12 : Int32) (v13 : Int32) (Ob : OBk) (dA : Nat → Int32) (wA : Nat → Int32), E469 v12 v13 Ob dA wA → ∀ (H : Heap) (locs : List Loc) (ls : Array Slot) (wb : va_W), isBk k a0 Ob wb → va_P D vwCl ([(qw, .inl (k 0, 6, .inl wA)), (qd, .inl (k 0, 3, .inl dA))] ++ wb) H → va_D A ([(qw, .inl (k 0, 6, .inl wA)), (qd, .inl (k 0, 3, .inl dA))] ++ wb) → va_S A s.heap H locs → lv_has ls 20 [(12, .int v12), (13, .int v13)] → W p l e rmL_step s m args below meth c H locs 0 0 Q (F0 m 469 ls [])) (v12 : Int32) (v14 : Int32) (s0 : Int32) (s1 : Int32) (Ob : OBk) (dA : Nat → Int32) (wA : Nat → Int32), BL_step_460 K9 v3 v4 v5 K E469 v12 v14 s0 s1 Ob dA wA → ∀ (H : Heap) (locs : List Loc) (ls : Array Slot) (wb : va_W), isBk k a0 Ob wb → va_P D vwCl ([(qw, .inl (k 0, 6, .inl wA)), (qd, .inl (k 0, 3, .inl dA))] ++ wb) H → va_D A ([(qw, .inl (k 0, 6, .inl wA)), (qd, .inl (k 0, 3, .inl dA))] ++ wb) → va_S A s.heap H locs → lv_has ls 20 [(0, .ref a0), (1, .ref qd), (12, .int v12), (14, .int v14)] → W p l e rmL_step s m args below meth c H locs 0 0 Q (F0 m 460 ls [.int s1, .int s0]) := by
    intro K hKK E469 hE469 v12 v14 s0 s1 Ob dA wA h H locs ls wb hBk hP hD hS hl
    unfold BL_step_460 at h
    refine lv_iadd hx hb dL_step_460 ?_
    refine lv_istore (lv' := [(13, .int (s0 + s1)), (0, .ref a0), (1, .ref qd), (12, .int v12), (14, .int v14)]) hx hb dL_step_461 hl (by decide) rfl (fun ls hl => ?_)
    refine lv_iinc (v := v14 + 1) (lv' := [(14, .int (v14 + 1)), (13, .int (s0 + s1)), (0, .ref a0), (1, .ref qd), (12, .int v12)]) hx hb dL_step_463 hl (k := 4) rfl rfl (by decide) rfl (fun ls hl => ?_)
    refine lv_goto (tgt := 435) hx hb dL_step_466 (by decide) ?_
    exact hKK _ _ _ _ _ _ h _ _ _ _ hBk hP hD hS (lv_sub hl [2, 3, 4, 1, 0] rfl)
  have LH_435 : ∀ (E469 : Int32 → Int32 → OBk → (Nat → Int32) → (Nat → Int32) → Prop) (hE469 : ∀ (v12 : Int32) (v13 : Int32) (Ob : OBk) (dA : Nat → Int32) (wA : Nat → Int32), E469 v12 v13 Ob dA wA → ∀ (H : Heap) (locs : List Loc) (ls : Array Slot) (wb : va_W), isBk k a0 Ob wb → va_P D vwCl ([(qw, .inl (k 0, 6, .inl wA)), (qd, .inl (k 0, 3, .inl dA))] ++ wb) H → va_D A ([(qw, .inl (k 0, 6, .inl wA)), (qd, .inl (k 0, 3, .inl dA))] ++ wb) → va_S A s.heap H locs → lv_has ls 20 [(12, .int v12), (13, .int v13)] → W p l e rmL_step s m args below meth c H locs 0 0 Q (F0 m 469 ls [])) (n : Nat) (v12 : Int32) (v13 : Int32) (v14 : Int32) (Ob : OBk) (dA : Nat → Int32) (wA : Nat → Int32), LL_step_435 K9 v3 v4 v5 E469 n v12 v13 v14 Ob dA wA → ∀ (H : Heap) (locs : List Loc) (ls : Array Slot) (wb : va_W), isBk k a0 Ob wb → va_P D vwCl ([(qw, .inl (k 0, 6, .inl wA)), (qd, .inl (k 0, 3, .inl dA))] ++ wb) H → va_D A ([(qw, .inl (k 0, 6, .inl wA)), (qd, .inl (k 0, 3, .inl dA))] ++ wb) → va_S A s.heap H locs → lv_has ls 20 [(0, .ref a0), (1, .ref qd), (12, .int v12), (13, .int v13), (14, .int v14)] → W p l e rmL_step s m args below meth c H locs 0 0 Q (F0 m 435 ls []) := by
    intro E469 hE469 n
    induction n with
    | zero => intro v12 v13 v14 Ob dA wA h; exact h.elim
    | succ n ih =>
    intro v12 v13 v14 Ob dA wA h H locs ls wb hBk hP hD hS hl
    rw [LL_step_435] at h
    refine lv_iload hx hb dL_step_435 (lv_at hl 4 rfl) ?_
    refine lv_aload_n hx hb dL_step_437 rfl (lv_at hl 1 rfl) ?_
    refine lv_iconst (v := 0) hx hb dL_step_438 (by decide) ?_
    obtain ⟨hi48, h⟩ := h
    refine va_iald hx hb hK hP 1 0 rfl rfl hi48 dL_step_439 ?_
    refine lv_icmp_ge (tgt := 469) hx hb dL_step_440 (by decide) (fun c49 => ?_) (fun c49 => ?_)
    · replace h := pf_t c49 h
      exact hE469 _ _ _ _ _ h _ _ _ _ hBk hP hD hS (lv_sub hl [2, 3] rfl)
    · replace h := pf_f c49 h
      refine lv_iload hx hb dL_step_443 (lv_at hl 3 rfl) ?_
      refine lv_aload_n hx hb dL_step_445 rfl (lv_at hl 0 rfl) ?_
      refine lv_iload hx hb dL_step_446 (lv_at hl 4 rfl) ?_
      have hP2 : va_P D vwCl ([(qw, .inl (k 0, 6, .inl wA)), (qd, .inl (k 0, 3, .inl dA))] ++ wb) H := hP
      have hD2 : va_D A ([(qw, .inl (k 0, 6, .inl wA)), (qd, .inl (k 0, 3, .inl dA))] ++ wb) := hD
      have hPc := vs_r hP2
      have hDc := vd_r hD2
      have hFc := vs_free hDc hS hA
      obtain ⟨fs9, hb9⟩ := isBk_head hBk
      have hM9 := bk_disagrees l D k hBk h
      refine xc_iB (va_runV (mc := 0) (ms := 0) (As := [.int v14]) (rest := [.int v13]) ⟨hx, hb, hml, hown, hts⟩ (hM9 H.size) (cwV 1 hts gL_step_X6_disagrees rfl rfl rfl (by decide +kernel) ⟨Nat.le_of_ble_eq_true rfl, Nat.le_of_ble_eq_true rfl⟩) ⟨pn_blind, va_recv hK hPc (ci := 6) (q0 := 0) rfl hb9, pn_start hPc hK hDc hNW⟩ rfl rfl hl.1 rfl (lv_room (Nat.le_of_ble_eq_true rfl)) dL_step_448 ⟨Nat.le_of_ble_eq_true rfl, Nat.le_of_ble_eq_true rfl⟩) hS hFc (fun r50 Ob50 wb50 H1 locs h hBk9 hP1 hD1 hk1 hS => ?_)
      obtain ⟨hP, hD⟩ := vs_joinR hP2 hD2 hFc hk1 hP1 hD1
      clear hP1 hD1 hk1 hFc hPc hDc hP2 hD2
      replace hBk := hBk9
      clear hBk9
      generalize H1 = H at hP hS ⊢
      replace hP : va_P D vwCl ([(qw, .inl (k 0, 6, .inl wA)), (qd, .inl (k 0, 3, .inl dA))] ++ wb50) H := hP
      replace hD : va_D A ([(qw, .inl (k 0, 6, .inl wA)), (qd, .inl (k 0, 3, .inl dA))] ++ wb50) := hD
      obtain ⟨wb, hwb⟩ : ∃ z, z = wb50 := ⟨_, rfl⟩
      subst hwb
      clear hM9
      refine lv_iconst (v := -1) hx hb dL_step_451 (by decide) ?_
      refine lv_icmp_ne (tgt := 459) hx hb dL_step_452 (by decide) (fun c51 => ?_) (fun c51 => ?_)
      · replace h := pf_f c51 h
        refine lv_iconst (v := 1) hx hb dL_step_459 (by decide) ?_
        exact BH_460 _ ih _ hE469 _ _ _ _ _ _ _ h _ _ _ _ hBk hP hD hS (lv_sub hl [0, 1, 2, 4] rfl)
      · replace h := pf_t c51 h
        refine lv_iconst (v := 0) hx hb dL_step_455 (by decide) ?_
        refine lv_goto (tgt := 460) hx hb dL_step_456 (by decide) ?_
        exact BH_460 _ ih _ hE469 _ _ _ _ _ _ _ h _ _ _ _ hBk hP hD hS (lv_sub hl [0, 1, 2, 4] rfl)
  have BH_561 : ∀ (Ob : OBk) (dA : Nat → Int32) (wA : Nat → Int32), BL_step_561 K9 v3 v4 v5 Ob dA wA → ∀ (H : Heap) (locs : List Loc) (ls : Array Slot) (wb : va_W), isBk k a0 Ob wb → va_P D vwCl ([(qw, .inl (k 0, 6, .inl wA)), (qd, .inl (k 0, 3, .inl dA))] ++ wb) H → va_D A ([(qw, .inl (k 0, 6, .inl wA)), (qd, .inl (k 0, 3, .inl dA))] ++ wb) → va_S A s.heap H locs → lv_has ls 20 [(0, .ref a0), (1, .ref qd), (4, .int v4), (5, .int v5)] → W p l e rmL_step s m args below meth c H locs 0 0 Q (F0 m 561 ls []) := by
    intro  Ob dA wA h H locs ls wb hBk hP hD hS hl
    unfold BL_step_561 at h
    refine lv_aload_n hx hb dL_step_561 rfl (lv_at hl 0 rfl) ?_
    refine lv_aload_n hx hb dL_step_562 rfl (lv_at hl 1 rfl) ?_
    refine lv_iload hx hb dL_step_563 (lv_at hl 2 rfl) ?_
    refine lv_iload hx hb dL_step_565 (lv_at hl 3 rfl) ?_
    have hP2 : va_P D vwCl ([(qw, .inl (k 0, 6, .inl wA))] ++ ([(qd, .inl (k 0, 3, .inl dA))] ++ wb)) H := hP
    have hD2 : va_D A ([(qw, .inl (k 0, 6, .inl wA))] ++ ([(qd, .inl (k 0, 3, .inl dA))] ++ wb)) := hD
    have hPc := vs_r hP2
    have hDc := vd_r hD2
    have hFc := vs_free hDc hS hA
    have hM9 := met_L_isRead l hst D k a0 qd v4 v5 Ob dA _ h _ hBk
    refine xc_iD (w1 := fun wb dA => ([(qd, .inl (k 0, 3, .inl dA))] ++ wb)) (va_runS (mc := 24) (ms := 1287) (As := [.ref a0, .ref qd, .int v4, .int v5]) (rest := []) ⟨hx, hb, hml, hown, hts⟩ (hM9 H.size) (va_cwS 4 hts gL_step_L_isRead rfl rfl rfl (by decide +kernel) ⟨Nat.le_of_ble_eq_true rfl, Nat.le_of_ble_eq_true rfl⟩) ⟨pz_blind, pz_start hPc hK hDc (hXP.keep hS.2.1) hNW hFc⟩ rfl rfl hl.1 rfl (lv_room (Nat.le_of_ble_eq_true rfl)) dL_step_567 ⟨Nat.le_of_ble_eq_true rfl, Nat.le_of_ble_eq_true rfl⟩) hS hFc (fun r60 Ob60 wb60 d_60 H1 locs h hBk9 hP1 hD1 hk1 hS => ?_)
    obtain ⟨hP, hD⟩ := vs_joinR hP2 hD2 hFc hk1 hP1 hD1
    clear hP1 hD1 hk1 hFc hPc hDc hP2 hD2
    replace hBk := hBk9
    clear hBk9
    generalize H1 = H at hP hS ⊢
    replace hP : va_P D vwCl ([(qw, .inl (k 0, 6, .inl wA)), (qd, .inl (k 0, 3, .inl d_60))] ++ wb60) H := hP
    replace hD : va_D A ([(qw, .inl (k 0, 6, .inl wA)), (qd, .inl (k 0, 3, .inl d_60))] ++ wb60) := hD
    obtain ⟨wb, hwb⟩ : ∃ z, z = wb60 := ⟨_, rfl⟩
    subst hwb
    clear hM9
    refine W.widen (k := 24) (n := 1287) (Nat.le_of_ble_eq_true rfl) (Nat.le_of_ble_eq_true rfl) ?_
    obtain ⟨hnr, h⟩ := h
    have hP9 := hP
    rw [hQ]
    exact W.zret hx hb hr hnr (fun t ht hW => ⟨⟨_, (Ob60, wb, d_60, wA), rfl, pE_i h hBk, by rw [ht]; exact hP9, va_K.moved hW.alike hK, hD⟩, hS.F ht⟩) hS.2.2 dL_step_570
  have BH_663 : ∀ (v15 : Int32) (s0 : Int32) (Ob : OBk) (dA : Nat → Int32) (wA : Nat → Int32), BL_step_663 K9 v3 v4 v5 v15 s0 Ob dA wA → ∀ (H : Heap) (locs : List Loc) (ls : Array Slot) (wb : va_W), isBk k a0 Ob wb → va_P D vwCl ([(qw, .inl (k 0, 6, .inl wA)), (qd, .inl (k 0, 3, .inl dA))] ++ wb) H → va_D A ([(qw, .inl (k 0, 6, .inl wA)), (qd, .inl (k 0, 3, .inl dA))] ++ wb) → va_S A s.heap H locs → lv_has ls 20 [(1, .ref qd), (15, .int v15)] → W p l e rmL_step s m args below meth c H locs 1 6 Q (F0 m 663 ls [.int s0]) := by
    intro  v15 s0 Ob dA wA h H locs ls wb hBk hP hD hS hl
    unfold BL_step_663 at h
    refine lv_istore (lv' := [(16, .int s0), (1, .ref qd), (15, .int v15)]) hx hb dL_step_663 hl (by decide) rfl (fun ls hl => ?_)
    refine lv_aload_n hx hb dL_step_665 rfl (lv_at hl 1 rfl) ?_
    refine lv_iconst (v := 1) hx hb dL_step_666 (by decide) ?_
    refine lv_iload hx hb dL_step_667 (lv_at hl 2 rfl) ?_
    refine lv_bipush (v := -2) hx hb dL_step_669 (by decide) ?_
    refine lv_icmp_ne (tgt := 680) hx hb dL_step_671 (by decide) (fun c69 => ?_) (fun c69 => ?_)
    · replace h := pf_f c69 h
      refine lv_iload hx hb dL_step_680 (lv_at hl 2 rfl) ?_
      obtain ⟨hi70, h⟩ := h
      refine va_iast hx hb hK hP hD hS 1 0 rfl rfl hi70 dL_step_682 (fun H locs hP hD hS => ?_)
      replace hP : va_P D vwCl ([(qw, .inl (k 0, 6, .inl wA)), (qd, .inl (k 0, 3, .inl (upd dA ((1 : Int32).toNatClampNeg) v15)))] ++ wb) H := hP
      replace hD : va_D A ([(qw, .inl (k 0, 6, .inl wA)), (qd, .inl (k 0, 3, .inl (upd dA ((1 : Int32).toNatClampNeg) v15)))] ++ wb) := hD
      refine lv_iload hx hb dL_step_683 (lv_at hl 0 rfl) ?_
      refine W.widen (k := 24) (n := 1287) (Nat.le_of_ble_eq_true rfl) (Nat.le_of_ble_eq_true rfl) ?_
      obtain ⟨hnr, h⟩ := h
      have hP9 := hP
      rw [hQ]
      exact W.zret hx hb hr hnr (fun t ht hW => ⟨⟨_, (Ob, wb, upd dA ((1 : Int32).toNatClampNeg) v15, wA), rfl, pE_i h hBk, by rw [ht]; exact hP9, va_K.moved hW.alike hK, hD⟩, hS.F ht⟩) hS.2.2 dL_step_685
    · replace h := pf_t c69 h
      refine lv_aload_n hx hb dL_step_674 rfl (lv_at hl 1 rfl) ?_
      refine lv_iconst (v := 1) hx hb dL_step_675 (by decide) ?_
      obtain ⟨hi71, h⟩ := h
      refine va_iald hx hb hK hP 1 0 rfl rfl hi71 dL_step_676 ?_
      refine lv_goto (tgt := 682) hx hb dL_step_677 (by decide) ?_
      obtain ⟨hi72, h⟩ := h
      refine va_iast hx hb hK hP hD hS 1 0 rfl rfl hi72 dL_step_682 (fun H locs hP hD hS => ?_)
      replace hP : va_P D vwCl ([(qw, .inl (k 0, 6, .inl wA)), (qd, .inl (k 0, 3, .inl (upd dA ((1 : Int32).toNatClampNeg) (dA (1 : Int32).toNatClampNeg))))] ++ wb) H := hP
      replace hD : va_D A ([(qw, .inl (k 0, 6, .inl wA)), (qd, .inl (k 0, 3, .inl (upd dA ((1 : Int32).toNatClampNeg) (dA (1 : Int32).toNatClampNeg))))] ++ wb) := hD
      refine lv_iload hx hb dL_step_683 (lv_at hl 0 rfl) ?_
      refine W.widen (k := 24) (n := 1287) (Nat.le_of_ble_eq_true rfl) (Nat.le_of_ble_eq_true rfl) ?_
      obtain ⟨hnr, h⟩ := h
      have hP9 := hP
      rw [hQ]
      exact W.zret hx hb hr hnr (fun t ht hW => ⟨⟨_, (Ob, wb, upd dA ((1 : Int32).toNatClampNeg) (dA (1 : Int32).toNatClampNeg), wA), rfl, pE_i h hBk, by rw [ht]; exact hP9, va_K.moved hW.alike hK, hD⟩, hS.F ht⟩) hS.2.2 dL_step_685
  have BH_662 : ∀ (v15 : Int32) (Ob : OBk) (dA : Nat → Int32) (wA : Nat → Int32), BL_step_662 K9 v3 v4 v5 v15 Ob dA wA → ∀ (H : Heap) (locs : List Loc) (ls : Array Slot) (wb : va_W), isBk k a0 Ob wb → va_P D vwCl ([(qw, .inl (k 0, 6, .inl wA)), (qd, .inl (k 0, 3, .inl dA))] ++ wb) H → va_D A ([(qw, .inl (k 0, 6, .inl wA)), (qd, .inl (k 0, 3, .inl dA))] ++ wb) → va_S A s.heap H locs → lv_has ls 20 [(1, .ref qd), (15, .int v15)] → W p l e rmL_step s m args below meth c H locs 1 6 Q (F0 m 662 ls []) := by
    intro  v15 Ob dA wA h H locs ls wb hBk hP hD hS hl
    unfold BL_step_662 at h
    refine lv_iconst (v := 0) hx hb dL_step_662 (by decide) ?_
    exact BH_663  _ _ _ _ _ h _ _ _ _ hBk hP hD hS (lv_sub hl [0, 1] rfl)
  have BH_598 : ∀ (s1 : Int32) (s2 : Int32) (Ob : OBk) (dA : Nat → Int32) (wA : Nat → Int32), BL_step_598 K9 v3 v4 v5 s1 s2 Ob dA wA → ∀ (H : Heap) (locs : List Loc) (ls : Array Slot) (wb : va_W), isBk k a0 Ob wb → va_P D vwCl ([(qw, .inl (k 0, 6, .inl wA)), (qd, .inl (k 0, 3, .inl dA))] ++ wb) H → va_D A ([(qw, .inl (k 0, 6, .inl wA)), (qd, .inl (k 0, 3, .inl dA))] ++ wb) → va_S A s.heap H locs → lv_has ls 20 [(1, .ref qd)] → W p l e rmL_step s m args below meth c H locs 0 0 Q (F0 m 598 ls [.int s2, .int s1, .ref a0]) := by
    intro  s1 s2 Ob dA wA h H locs ls wb hBk hP hD hS hl
    unfold BL_step_598 at h
    have hP2 : va_P D vwCl ([(qw, .inl (k 0, 6, .inl wA)), (qd, .inl (k 0, 3, .inl dA))] ++ wb) H := hP
    have hD2 : va_D A ([(qw, .inl (k 0, 6, .inl wA)), (qd, .inl (k 0, 3, .inl dA))] ++ wb) := hD
    have hPc := vs_r hP2
    have hDc := vd_r hD2
    have hFc := vs_free hDc hS hA
    have hM9 := met_L_tables l hst D k hBk h
    refine xc_iB (vx_runSW (mc := 1) (ms := 6) (As := [.ref a0, .int s1, .int s2]) (rest := []) ⟨hx, hb, hml, hown, hts⟩ (hM9 H.size) (vx_cwSW 3 hts gL_step_L_tables rfl rfl rfl (by decide +kernel) ⟨Nat.le_of_ble_eq_true rfl, Nat.le_of_ble_eq_true rfl⟩) ⟨pz_blind, pz_start hPc hK hDc (hXP.keep hS.2.1) hNW hFc⟩ rfl rfl hl.1 rfl (lv_room (Nat.le_of_ble_eq_true rfl)) dL_step_598 ⟨Nat.le_of_ble_eq_true rfl, Nat.le_of_ble_eq_true rfl⟩) hS hFc (fun r66 Ob66 wb66 H1 locs h hBk9 hP1 hD1 hk1 hS => ?_)
    obtain ⟨hP, hD⟩ := vs_joinR hP2 hD2 hFc hk1 hP1 hD1
    clear hP1 hD1 hk1 hFc hPc hDc hP2 hD2
    replace hBk := hBk9
    clear hBk9
    generalize H1 = H at hP hS ⊢
    replace hP : va_P D vwCl ([(qw, .inl (k 0, 6, .inl wA)), (qd, .inl (k 0, 3, .inl dA))] ++ wb66) H := hP
    replace hD : va_D A ([(qw, .inl (k 0, 6, .inl wA)), (qd, .inl (k 0, 3, .inl dA))] ++ wb66) := hD
    obtain ⟨wb, hwb⟩ : ∃ z, z = wb66 := ⟨_, rfl⟩
    subst hwb
    clear hM9
    refine lv_istore (lv' := [(15, .int r66), (1, .ref qd)]) hx hb dL_step_601 hl (by decide) rfl (fun ls hl => ?_)
    refine lv_iload hx hb dL_step_603 (lv_at hl 0 rfl) ?_
    refine lv_bipush (v := -2) hx hb dL_step_605 (by decide) ?_
    refine lv_icmp_ne (tgt := 626) hx hb dL_step_607 (by decide) (fun c67 => ?_) (fun c67 => ?_)
    · replace h := pf_f c67 h
      refine lv_iload hx hb dL_step_626 (lv_at hl 0 rfl) ?_
      refine lv_if_lt (tgt := 662) hx hb dL_step_628 (by decide) (fun c68 => ?_) (fun c68 => ?_)
      · replace h := pf_t c68 h
        refine W.widen (k := 1) (n := 6) (Nat.le_of_ble_eq_true rfl) (Nat.le_of_ble_eq_true rfl) ?_
        exact BH_662  _ _ _ _ h _ _ _ _ hBk hP hD hS (lv_sub hl [1, 0] rfl)
      · replace h := pf_f c68 h
        refine lv_iload hx hb dL_step_631 (lv_at hl 0 rfl) ?_
        refine lv_bipush (v := 12) hx hb dL_step_633 (by decide) ?_
        refine lv_icmp_gt (tgt := 662) hx hb dL_step_635 (by decide) (fun c73 => ?_) (fun c73 => ?_)
        · replace h := pf_t c73 h
          refine W.widen (k := 1) (n := 6) (Nat.le_of_ble_eq_true rfl) (Nat.le_of_ble_eq_true rfl) ?_
          exact BH_662  _ _ _ _ h _ _ _ _ hBk hP hD hS (lv_sub hl [1, 0] rfl)
        · replace h := pf_f c73 h
          refine lv_iload hx hb dL_step_638 (lv_at hl 0 rfl) ?_
          refine lv_aload_n hx hb dL_step_640 rfl (lv_at hl 1 rfl) ?_
          refine lv_iconst (v := 1) hx hb dL_step_641 (by decide) ?_
          obtain ⟨hi74, h⟩ := h
          refine va_iald hx hb hK hP 1 0 rfl rfl hi74 dL_step_642 ?_
          refine lv_isub hx hb dL_step_643 ?_
          refine lv_iconst (v := 1) hx hb dL_step_644 (by decide) ?_
          refine lv_icmp_gt (tgt := 662) hx hb dL_step_645 (by decide) (fun c75 => ?_) (fun c75 => ?_)
          · replace h := pf_t c75 h
            refine W.widen (k := 1) (n := 6) (Nat.le_of_ble_eq_true rfl) (Nat.le_of_ble_eq_true rfl) ?_
            exact BH_662  _ _ _ _ h _ _ _ _ hBk hP hD hS (lv_sub hl [1, 0] rfl)
          · replace h := pf_f c75 h
            refine lv_aload_n hx hb dL_step_648 rfl (lv_at hl 1 rfl) ?_
            refine lv_iconst (v := 1) hx hb dL_step_649 (by decide) ?_
            obtain ⟨hi76, h⟩ := h
            refine va_iald hx hb hK hP 1 0 rfl rfl hi76 dL_step_650 ?_
            refine lv_iload hx hb dL_step_651 (lv_at hl 0 rfl) ?_
            refine lv_isub hx hb dL_step_653 ?_
            refine lv_iconst (v := 1) hx hb dL_step_654 (by decide) ?_
            refine lv_icmp_gt (tgt := 662) hx hb dL_step_655 (by decide) (fun c77 => ?_) (fun c77 => ?_)
            · replace h := pf_t c77 h
              refine W.widen (k := 1) (n := 6) (Nat.le_of_ble_eq_true rfl) (Nat.le_of_ble_eq_true rfl) ?_
              exact BH_662  _ _ _ _ h _ _ _ _ hBk hP hD hS (lv_sub hl [1, 0] rfl)
            · replace h := pf_f c77 h
              refine lv_iconst (v := 1) hx hb dL_step_658 (by decide) ?_
              refine lv_goto (tgt := 663) hx hb dL_step_659 (by decide) ?_
              refine W.widen (k := 1) (n := 6) (Nat.le_of_ble_eq_true rfl) (Nat.le_of_ble_eq_true rfl) ?_
              exact BH_663  _ _ _ _ _ h _ _ _ _ hBk hP hD hS (lv_sub hl [1, 0] rfl)
    · replace h := pf_t c67 h
      refine lv_aload_n hx hb dL_step_610 rfl (lv_at hl 1 rfl) ?_
      refine lv_iconst (v := 1) hx hb dL_step_611 (by decide) ?_
      obtain ⟨hi78, h⟩ := h
      refine va_iald hx hb hK hP 1 0 rfl rfl hi78 dL_step_612 ?_
      refine lv_bipush (v := 12) hx hb dL_step_613 (by decide) ?_
      refine lv_icmp_ne (tgt := 622) hx hb dL_step_615 (by decide) (fun c79 => ?_) (fun c79 => ?_)
      · replace h := pf_f c79 h
        refine lv_iconst (v := 0) hx hb dL_step_622 (by decide) ?_
        refine lv_goto (tgt := 663) hx hb dL_step_623 (by decide) ?_
        refine W.widen (k := 1) (n := 6) (Nat.le_of_ble_eq_true rfl) (Nat.le_of_ble_eq_true rfl) ?_
        exact BH_663  _ _ _ _ _ h _ _ _ _ hBk hP hD hS (lv_sub hl [1, 0] rfl)
      · replace h := pf_t c79 h
        refine lv_iconst (v := 1) hx hb dL_step_618 (by decide) ?_
        refine lv_goto (tgt := 663) hx hb dL_step_619 (by decide) ?_
        refine W.widen (k := 1) (n := 6) (Nat.le_of_ble_eq_true rfl) (Nat.le_of_ble_eq_true rfl) ?_
        exact BH_663  _ _ _ _ _ h _ _ _ _ hBk hP hD hS (lv_sub hl [1, 0] rfl)
  have BH_717 : ∀ (v17 : Int32) (s0 : Int32) (Ob : OBk) (dA : Nat → Int32) (wA : Nat → Int32), BL_step_717 K9 v3 v4 v5 v17 s0 Ob dA wA → ∀ (H : Heap) (locs : List Loc) (ls : Array Slot) (wb : va_W), isBk k a0 Ob wb → va_P D vwCl ([(qw, .inl (k 0, 6, .inl wA)), (qd, .inl (k 0, 3, .inl dA))] ++ wb) H → va_D A ([(qw, .inl (k 0, 6, .inl wA)), (qd, .inl (k 0, 3, .inl dA))] ++ wb) → va_S A s.heap H locs → lv_has ls 20 [(1, .ref qd), (5, .int v5), (17, .int v17)] → W p l e rmL_step s m args below meth c H locs 0 0 Q (F0 m 717 ls [.int s0]) := by
    intro  v17 s0 Ob dA wA h H locs ls wb hBk hP hD hS hl
    unfold BL_step_717 at h
    refine lv_istore (lv' := [(16, .int s0), (1, .ref qd), (5, .int v5), (17, .int v17)]) hx hb dL_step_717 hl (by decide) rfl (fun ls hl => ?_)
    refine lv_aload_n hx hb dL_step_719 rfl (lv_at hl 1 rfl) ?_
    refine lv_iconst (v := 2) hx hb dL_step_720 (by decide) ?_
    refine lv_iload hx hb dL_step_721 (lv_at hl 2 rfl) ?_
    refine lv_ldc (v := 65537) hx hb hown kc72 dL_step_723 ?_
    refine lv_irem hx hb dL_step_725 (by decide) ?_
    obtain ⟨hi84, h⟩ := h
    refine va_iast hx hb hK hP hD hS 1 0 rfl rfl hi84 dL_step_726 (fun H locs hP hD hS => ?_)
    replace hP : va_P D vwCl ([(qw, .inl (k 0, 6, .inl wA)), (qd, .inl (k 0, 3, .inl (upd dA ((2 : Int32).toNatClampNeg) (jrem v5 65537))))] ++ wb) H := hP
    replace hD : va_D A ([(qw, .inl (k 0, 6, .inl wA)), (qd, .inl (k 0, 3, .inl (upd dA ((2 : Int32).toNatClampNeg) (jrem v5 65537))))] ++ wb) := hD
    refine lv_iload hx hb dL_step_727 (lv_at hl 0 rfl) ?_
    refine lv_if_eq (tgt := 748) hx hb dL_step_729 (by decide) (fun c85 => ?_) (fun c85 => ?_)
    · replace h := pf_t c85 h
      refine lv_iconst (v := 0) hx hb dL_step_748 (by decide) ?_
      refine W.widen (k := 24) (n := 1287) (Nat.le_of_ble_eq_true rfl) (Nat.le_of_ble_eq_true rfl) ?_
      obtain ⟨hnr, h⟩ := h
      have hP9 := hP
      rw [hQ]
      exact W.zret hx hb hr hnr (fun t ht hW => ⟨⟨_, (Ob, wb, upd dA ((2 : Int32).toNatClampNeg) (jrem v5 65537), wA), rfl, pE_i h hBk, by rw [ht]; exact hP9, va_K.moved hW.alike hK, hD⟩, hS.F ht⟩) hS.2.2 dL_step_749
    · replace h := pf_f c85 h
      refine lv_iload hx hb dL_step_732 (lv_at hl 3 rfl) ?_
      refine lv_if_lt (tgt := 748) hx hb dL_step_734 (by decide) (fun c86 => ?_) (fun c86 => ?_)
      · replace h := pf_t c86 h
        refine lv_iconst (v := 0) hx hb dL_step_748 (by decide) ?_
        refine W.widen (k := 24) (n := 1287) (Nat.le_of_ble_eq_true rfl) (Nat.le_of_ble_eq_true rfl) ?_
        obtain ⟨hnr, h⟩ := h
        have hP9 := hP
        rw [hQ]
        exact W.zret hx hb hr hnr (fun t ht hW => ⟨⟨_, (Ob, wb, upd dA ((2 : Int32).toNatClampNeg) (jrem v5 65537), wA), rfl, pE_i h hBk, by rw [ht]; exact hP9, va_K.moved hW.alike hK, hD⟩, hS.F ht⟩) hS.2.2 dL_step_749
      · replace h := pf_f c86 h
        refine lv_iload hx hb dL_step_737 (lv_at hl 3 rfl) ?_
        refine lv_ldc (v := 65537) hx hb hown kc72 dL_step_739 ?_
        refine lv_icmp_ge (tgt := 748) hx hb dL_step_741 (by decide) (fun c87 => ?_) (fun c87 => ?_)
        · replace h := pf_t c87 h
          refine lv_iconst (v := 0) hx hb dL_step_748 (by decide) ?_
          refine W.widen (k := 24) (n := 1287) (Nat.le_of_ble_eq_true rfl) (Nat.le_of_ble_eq_true rfl) ?_
          obtain ⟨hnr, h⟩ := h
          have hP9 := hP
          rw [hQ]
          exact W.zret hx hb hr hnr (fun t ht hW => ⟨⟨_, (Ob, wb, upd dA ((2 : Int32).toNatClampNeg) (jrem v5 65537), wA), rfl, pE_i h hBk, by rw [ht]; exact hP9, va_K.moved hW.alike hK, hD⟩, hS.F ht⟩) hS.2.2 dL_step_749
        · replace h := pf_f c87 h
          refine lv_iconst (v := 1) hx hb dL_step_744 (by decide) ?_
          refine lv_goto (tgt := 749) hx hb dL_step_745 (by decide) ?_
          refine W.widen (k := 24) (n := 1287) (Nat.le_of_ble_eq_true rfl) (Nat.le_of_ble_eq_true rfl) ?_
          obtain ⟨hnr, h⟩ := h
          have hP9 := hP
          rw [hQ]
          exact W.zret hx hb hr hnr (fun t ht hW => ⟨⟨_, (Ob, wb, upd dA ((2 : Int32).toNatClampNeg) (jrem v5 65537), wA), rfl, pE_i h hBk, by rw [ht]; exact hP9, va_K.moved hW.alike hK, hD⟩, hS.F ht⟩) hS.2.2 dL_step_749
  have BH_712 : ∀ (v17 : Int32) (Ob : OBk) (dA : Nat → Int32) (wA : Nat → Int32), BL_step_712 K9 v3 v4 v5 v17 Ob dA wA → ∀ (H : Heap) (locs : List Loc) (ls : Array Slot) (wb : va_W), isBk k a0 Ob wb → va_P D vwCl ([(qw, .inl (k 0, 6, .inl wA)), (qd, .inl (k 0, 3, .inl dA))] ++ wb) H → va_D A ([(qw, .inl (k 0, 6, .inl wA)), (qd, .inl (k 0, 3, .inl dA))] ++ wb) → va_S A s.heap H locs → lv_has ls 20 [(1, .ref qd), (5, .int v5), (17, .int v17)] → W p l e rmL_step s m args below meth c H locs 0 0 Q (F0 m 712 ls []) := by
    intro  v17 Ob dA wA h H locs ls wb hBk hP hD hS hl
    unfold BL_step_712 at h
    refine lv_iconst (v := 1) hx hb dL_step_712 (by decide) ?_
    refine lv_goto (tgt := 717) hx hb dL_step_713 (by decide) ?_
    exact BH_717  _ _ _ _ _ h _ _ _ _ hBk hP hD hS (lv_sub hl [0, 1, 2] rfl)
  have BH_800 : ∀ (v18 : Int32) (s0 : Int32) (Ob : OBk) (dA : Nat → Int32) (wA : Nat → Int32), BL_step_800 K9 v3 v4 v5 v18 s0 Ob dA wA → ∀ (H : Heap) (locs : List Loc) (ls : Array Slot) (wb : va_W), isBk k a0 Ob wb → va_P D vwCl ([(qw, .inl (k 0, 6, .inl wA)), (qd, .inl (k 0, 3, .inl dA))] ++ wb) H → va_D A ([(qw, .inl (k 0, 6, .inl wA)), (qd, .inl (k 0, 3, .inl dA))] ++ wb) → va_S A s.heap H locs → lv_has ls 20 [(1, .ref qd), (5, .int v5), (18, .int v18)] → W p l e rmL_step s m args below meth c H locs 0 0 Q (F0 m 800 ls [.int s0]) := by
    intro  v18 s0 Ob dA wA h H locs ls wb hBk hP hD hS hl
    unfold BL_step_800 at h
    refine lv_istore (lv' := [(19, .int s0), (1, .ref qd), (5, .int v5), (18, .int v18)]) hx hb dL_step_800 hl (by decide) rfl (fun ls hl => ?_)
    refine lv_aload_n hx hb dL_step_802 rfl (lv_at hl 1 rfl) ?_
    refine lv_iconst (v := 2) hx hb dL_step_803 (by decide) ?_
    refine lv_iconst (v := -1) hx hb dL_step_804 (by decide) ?_
    obtain ⟨hi99, h⟩ := h
    refine va_iast hx hb hK hP hD hS 1 0 rfl rfl hi99 dL_step_805 (fun H locs hP hD hS => ?_)
    replace hP : va_P D vwCl ([(qw, .inl (k 0, 6, .inl wA)), (qd, .inl (k 0, 3, .inl (upd dA ((2 : Int32).toNatClampNeg) ((-1)))))] ++ wb) H := hP
    replace hD : va_D A ([(qw, .inl (k 0, 6, .inl wA)), (qd, .inl (k 0, 3, .inl (upd dA ((2 : Int32).toNatClampNeg) ((-1)))))] ++ wb) := hD
    refine lv_iload hx hb dL_step_806 (lv_at hl 3 rfl) ?_
    refine lv_if_lt (tgt := 837) hx hb dL_step_808 (by decide) (fun c100 => ?_) (fun c100 => ?_)
    · replace h := pf_t c100 h
      refine lv_iconst (v := 0) hx hb dL_step_837 (by decide) ?_
      refine W.widen (k := 24) (n := 1287) (Nat.le_of_ble_eq_true rfl) (Nat.le_of_ble_eq_true rfl) ?_
      obtain ⟨hnr, h⟩ := h
      have hP9 := hP
      rw [hQ]
      exact W.zret hx hb hr hnr (fun t ht hW => ⟨⟨_, (Ob, wb, upd dA ((2 : Int32).toNatClampNeg) ((-1)), wA), rfl, pE_i h hBk, by rw [ht]; exact hP9, va_K.moved hW.alike hK, hD⟩, hS.F ht⟩) hS.2.2 dL_step_838
    · replace h := pf_f c100 h
      refine lv_iload hx hb dL_step_811 (lv_at hl 3 rfl) ?_
      refine lv_iconst (v := 1) hx hb dL_step_813 (by decide) ?_
      refine lv_iload hx hb dL_step_814 (lv_at hl 2 rfl) ?_
      refine lv_bipush (v := 100) hx hb dL_step_816 (by decide) ?_
      refine lv_irem hx hb dL_step_818 (by decide) ?_
      refine lv_iadd hx hb dL_step_819 ?_
      refine lv_icmp_gt (tgt := 837) hx hb dL_step_820 (by decide) (fun c101 => ?_) (fun c101 => ?_)
      · replace h := pf_t c101 h
        refine lv_iconst (v := 0) hx hb dL_step_837 (by decide) ?_
        refine W.widen (k := 24) (n := 1287) (Nat.le_of_ble_eq_true rfl) (Nat.le_of_ble_eq_true rfl) ?_
        obtain ⟨hnr, h⟩ := h
        have hP9 := hP
        rw [hQ]
        exact W.zret hx hb hr hnr (fun t ht hW => ⟨⟨_, (Ob, wb, upd dA ((2 : Int32).toNatClampNeg) ((-1)), wA), rfl, pE_i h hBk, by rw [ht]; exact hP9, va_K.moved hW.alike hK, hD⟩, hS.F ht⟩) hS.2.2 dL_step_838
      · replace h := pf_f c101 h
        refine lv_iload hx hb dL_step_823 (lv_at hl 0 rfl) ?_
        refine lv_if_ne (tgt := 833) hx hb dL_step_825 (by decide) (fun c102 => ?_) (fun c102 => ?_)
        · replace h := pf_f c102 h
          refine lv_iconst (v := 1) hx hb dL_step_833 (by decide) ?_
          refine lv_goto (tgt := 838) hx hb dL_step_834 (by decide) ?_
          refine W.widen (k := 24) (n := 1287) (Nat.le_of_ble_eq_true rfl) (Nat.le_of_ble_eq_true rfl) ?_
          obtain ⟨hnr, h⟩ := h
          have hP9 := hP
          rw [hQ]
          exact W.zret hx hb hr hnr (fun t ht hW => ⟨⟨_, (Ob, wb, upd dA ((2 : Int32).toNatClampNeg) ((-1)), wA), rfl, pE_i h hBk, by rw [ht]; exact hP9, va_K.moved hW.alike hK, hD⟩, hS.F ht⟩) hS.2.2 dL_step_838
        · replace h := pf_t c102 h
          refine lv_iload hx hb dL_step_828 (lv_at hl 3 rfl) ?_
          refine lv_if_ne (tgt := 837) hx hb dL_step_830 (by decide) (fun c103 => ?_) (fun c103 => ?_)
          · replace h := pf_f c103 h
            refine lv_iconst (v := 0) hx hb dL_step_837 (by decide) ?_
            refine W.widen (k := 24) (n := 1287) (Nat.le_of_ble_eq_true rfl) (Nat.le_of_ble_eq_true rfl) ?_
            obtain ⟨hnr, h⟩ := h
            have hP9 := hP
            rw [hQ]
            exact W.zret hx hb hr hnr (fun t ht hW => ⟨⟨_, (Ob, wb, upd dA ((2 : Int32).toNatClampNeg) ((-1)), wA), rfl, pE_i h hBk, by rw [ht]; exact hP9, va_K.moved hW.alike hK, hD⟩, hS.F ht⟩) hS.2.2 dL_step_838
          · replace h := pf_t c103 h
            refine lv_iconst (v := 1) hx hb dL_step_833 (by decide) ?_
            refine lv_goto (tgt := 838) hx hb dL_step_834 (by decide) ?_
            refine W.widen (k := 24) (n := 1287) (Nat.le_of_ble_eq_true rfl) (Nat.le_of_ble_eq_true rfl) ?_
            obtain ⟨hnr, h⟩ := h
            have hP9 := hP
            rw [hQ]
            exact W.zret hx hb hr hnr (fun t ht hW => ⟨⟨_, (Ob, wb, upd dA ((2 : Int32).toNatClampNeg) ((-1)), wA), rfl, pE_i h hBk, by rw [ht]; exact hP9, va_K.moved hW.alike hK, hD⟩, hS.F ht⟩) hS.2.2 dL_step_838
  suffices main : ∀ (H : Heap) (locs : List Loc) (ls : Array Slot), va_P D vwCl ([(qw, .inl (k 0, 6, .inl wA)), (qd, .inl (k 0, 3, .inl dA))] ++ wb) H → va_D A ([(qw, .inl (k 0, 6, .inl wA)), (qd, .inl (k 0, 3, .inl dA))] ++ wb) → va_S A s.heap H locs → lv_has ls 20 [(0, .ref a0), (1, .ref qd), (2, .ref qw), (3, .int v3), (4, .int v4), (5, .int v5)] → W p l e rmL_step s m args below meth c H locs 0 0 Q (F0 m 0 ls []) from main _ _ _ hP hD hS hl
  clear hP hD hS hl ls hAe
  intro H locs ls hP hD hS hl
  refine lv_iload hx hb dL_step_0 (lv_at hl 4 rfl) ?_
  refine lv_bipush (v := 6) hx hb dL_step_2 (by decide) ?_
  refine lv_irem hx hb dL_step_4 (by decide) ?_
  refine lv_istore (lv' := [(6, .int (jrem v4 6)), (0, .ref a0), (1, .ref qd), (2, .ref qw), (3, .int v3), (4, .int v4), (5, .int v5)]) hx hb dL_step_5 hl (by decide) rfl (fun ls hl => ?_)
  refine lv_iload hx hb dL_step_7 (lv_at hl 0 rfl) ?_
  refine lv_iconst (v := 1) hx hb dL_step_9 (by decide) ?_
  refine lv_iadd hx hb dL_step_10 ?_
  refine lv_iload hx hb dL_step_11 (lv_at hl 6 rfl) ?_
  refine lv_iconst (v := 5) hx hb dL_step_13 (by decide) ?_
  refine lv_irem hx hb dL_step_14 (by decide) ?_
  refine lv_iadd hx hb dL_step_15 ?_
  refine lv_bipush (v := 6) hx hb dL_step_16 (by decide) ?_
  refine lv_irem hx hb dL_step_18 (by decide) ?_
  refine lv_istore (lv' := [(7, .int (jrem (((jrem v4 6) + 1) + (jrem v5 5)) 6)), (6, .int (jrem v4 6)), (0, .ref a0), (1, .ref qd), (2, .ref qw), (3, .int v3), (4, .int v4), (5, .int v5)]) hx hb dL_step_19 hl (by decide) rfl (fun ls hl => ?_)
  refine lv_iload_n hx hb dL_step_21 rfl (lv_at hl 5 rfl) ?_
  refine lv_bipush (v := 14) hx hb dL_step_22 (by decide) ?_
  refine lv_irem hx hb dL_step_24 (by decide) ?_
  refine lv_topi (fun w1 ew1 => ?_)
  rcases Decidable.em ((jrem v3 14 : Int32) = 0) with c2 | c2
  · replace h := pf_t c2 h
    have ec2 : w1 = 0 := ew1.trans c2
    refine lv_tableIn (off := 63) (tgt := 88) hx hb dL_step_25 (by rw [ec2]; decide) (by rw [ec2]; decide) (by rw [ec2]; rfl) (by decide) ?_
    exact BH_88  _ _ _ _ h _ _ _ _ hBk hP hD hS (lv_sub hl [2, 4, 6, 7, 1] rfl)
  replace h := pf_f c2 h
  rcases Decidable.em ((jrem v3 14 : Int32) = 1) with c21 | c21
  · replace h := pf_t c21 h
    have ec21 : w1 = 1 := ew1.trans c21
    refine lv_tableIn (off := 63) (tgt := 88) hx hb dL_step_25 (by rw [ec21]; decide) (by rw [ec21]; decide) (by rw [ec21]; rfl) (by decide) ?_
    exact BH_88  _ _ _ _ h _ _ _ _ hBk hP hD hS (lv_sub hl [2, 4, 6, 7, 1] rfl)
  replace h := pf_f c21 h
  rcases Decidable.em ((jrem v3 14 : Int32) = 2) with c22 | c22
  · replace h := pf_t c22 h
    have ec22 : w1 = 2 := ew1.trans c22
    refine lv_tableIn (off := 234) (tgt := 259) hx hb dL_step_25 (by rw [ec22]; decide) (by rw [ec22]; decide) (by rw [ec22]; rfl) (by decide) ?_
    exact BH_259  _ _ _ _ h _ _ _ _ hBk hP hD hS (lv_sub hl [2, 4, 7, 1] rfl)
  replace h := pf_f c22 h
  rcases Decidable.em ((jrem v3 14 : Int32) = 3) with c45 | c45
  · replace h := pf_t c45 h
    have ec45 : w1 = 3 := ew1.trans c45
    refine lv_tableIn (off := 234) (tgt := 259) hx hb dL_step_25 (by rw [ec45]; decide) (by rw [ec45]; decide) (by rw [ec45]; rfl) (by decide) ?_
    exact BH_259  _ _ _ _ h _ _ _ _ hBk hP hD hS (lv_sub hl [2, 4, 7, 1] rfl)
  replace h := pf_f c45 h
  rcases Decidable.em ((jrem v3 14 : Int32) = 4) with c46 | c46
  · replace h := pf_t c46 h
    have ec46 : w1 = 4 := ew1.trans c46
    refine lv_tableIn (off := 379) (tgt := 404) hx hb dL_step_25 (by rw [ec46]; decide) (by rw [ec46]; decide) (by rw [ec46]; rfl) (by decide) ?_
    refine lv_aload_n hx hb dL_step_404 rfl (lv_at hl 2 rfl) ?_
    refine lv_iload hx hb dL_step_405 (lv_at hl 1 rfl) ?_
    refine lv_iload hx hb dL_step_407 (lv_at hl 7 rfl) ?_
    refine lv_bipush (v := 7) hx hb dL_step_409 (by decide) ?_
    refine lv_irem hx hb dL_step_411 (by decide) ?_
    refine lv_iconst (v := 3) hx hb dL_step_412 (by decide) ?_
    refine lv_isub hx hb dL_step_413 ?_
    refine lv_iload hx hb dL_step_414 (lv_at hl 7 rfl) ?_
    refine lv_bipush (v := 7) hx hb dL_step_416 (by decide) ?_
    refine lv_idiv hx hb dL_step_418 (by decide) ?_
    refine lv_bipush (v := 7) hx hb dL_step_419 (by decide) ?_
    refine lv_irem hx hb dL_step_421 (by decide) ?_
    refine lv_iconst (v := 3) hx hb dL_step_422 (by decide) ?_
    refine lv_isub hx hb dL_step_423 ?_
    have hP2 : va_P D vwCl ([(qw, .inl (k 0, 6, .inl wA)), (qd, .inl (k 0, 3, .inl dA))] ++ wb) H := hP
    have hD2 : va_D A ([(qw, .inl (k 0, 6, .inl wA)), (qd, .inl (k 0, 3, .inl dA))] ++ wb) := hD
    have hPc := vs_r hP2
    have hDc := vd_r hD2
    have hFc := vs_free hDc hS hA
    obtain ⟨fs9, hb9⟩ := isBk_head hBk
    have hM9 := bk_unit l D k hBk h
    refine xc_iB (va_runV (mc := 0) (ms := 0) (As := [.int (jrem v4 6), .int ((jrem v5 7) - 3), .int ((jrem (v5 / 7) 7) - 3)]) (rest := []) ⟨hx, hb, hml, hown, hts⟩ (hM9 H.size) (cwV 3 hts gL_step_X6_unit rfl rfl rfl (by decide +kernel) ⟨Nat.le_of_ble_eq_true rfl, Nat.le_of_ble_eq_true rfl⟩) ⟨pn_blind, va_recv hK hPc (ci := 6) (q0 := 0) rfl hb9, pn_start hPc hK hDc hNW⟩ rfl rfl hl.1 rfl (lv_room (Nat.le_of_ble_eq_true rfl)) dL_step_424 ⟨Nat.le_of_ble_eq_true rfl, Nat.le_of_ble_eq_true rfl⟩) hS hFc (fun r47 Ob47 wb47 H1 locs h hBk9 hP1 hD1 hk1 hS => ?_)
    obtain ⟨hP, hD⟩ := vs_joinR hP2 hD2 hFc hk1 hP1 hD1
    clear hP1 hD1 hk1 hFc hPc hDc hP2 hD2
    replace hBk := hBk9
    clear hBk9
    generalize H1 = H at hP hS ⊢
    replace hP : va_P D vwCl ([(qw, .inl (k 0, 6, .inl wA)), (qd, .inl (k 0, 3, .inl dA))] ++ wb47) H := hP
    replace hD : va_D A ([(qw, .inl (k 0, 6, .inl wA)), (qd, .inl (k 0, 3, .inl dA))] ++ wb47) := hD
    obtain ⟨wb, hwb⟩ : ∃ z, z = wb47 := ⟨_, rfl⟩
    subst hwb
    clear hM9
    refine lv_istore (lv' := [(12, .int r47), (7, .int (jrem (((jrem v4 6) + 1) + (jrem v5 5)) 6)), (6, .int (jrem v4 6)), (0, .ref a0), (1, .ref qd), (2, .ref qw), (3, .int v3), (4, .int v4), (5, .int v5)]) hx hb dL_step_427 hl (by decide) rfl (fun ls hl => ?_)
    refine lv_iconst (v := 0) hx hb dL_step_429 (by decide) ?_
    refine lv_istore (lv' := [(13, .int 0), (12, .int r47), (7, .int (jrem (((jrem v4 6) + 1) + (jrem v5 5)) 6)), (6, .int (jrem v4 6)), (0, .ref a0), (1, .ref qd), (2, .ref qw), (3, .int v3), (4, .int v4), (5, .int v5)]) hx hb dL_step_430 hl (by decide) rfl (fun ls hl => ?_)
    refine lv_iconst (v := 0) hx hb dL_step_432 (by decide) ?_
    refine lv_istore (lv' := [(14, .int 0), (13, .int 0), (12, .int r47), (7, .int (jrem (((jrem v4 6) + 1) + (jrem v5 5)) 6)), (6, .int (jrem v4 6)), (0, .ref a0), (1, .ref qd), (2, .ref qw), (3, .int v3), (4, .int v4), (5, .int v5)]) hx hb dL_step_433 hl (by decide) rfl (fun ls hl => ?_)
    refine LH_435 _ (fun v12 v13 Ob dA wA h H locs ls wb hBk hP hD hS hl => ?_) _ _ _ _ _ _ _ h _ _ _ _ hBk hP hD hS (lv_sub hl [5, 6, 2, 1, 0] rfl)
    · skip
      refine lv_iload hx hb dL_step_469 (lv_at hl 0 rfl) ?_
      refine lv_iload hx hb dL_step_471 (lv_at hl 1 rfl) ?_
      refine lv_icmp_ne (tgt := 480) hx hb dL_step_473 (by decide) (fun c52 => ?_) (fun c52 => ?_)
      · replace h := pf_f c52 h
        refine lv_iconst (v := 0) hx hb dL_step_480 (by decide) ?_
        refine W.widen (k := 24) (n := 1287) (Nat.le_of_ble_eq_true rfl) (Nat.le_of_ble_eq_true rfl) ?_
        obtain ⟨hnr, h⟩ := h
        have hP9 := hP
        rw [hQ]
        exact W.zret hx hb hr hnr (fun t ht hW => ⟨⟨_, (Ob, wb, dA, wA), rfl, pE_i h hBk, by rw [ht]; exact hP9, va_K.moved hW.alike hK, hD⟩, hS.F ht⟩) hS.2.2 dL_step_481
      · replace h := pf_t c52 h
        refine lv_iconst (v := 1) hx hb dL_step_476 (by decide) ?_
        refine lv_goto (tgt := 481) hx hb dL_step_477 (by decide) ?_
        refine W.widen (k := 24) (n := 1287) (Nat.le_of_ble_eq_true rfl) (Nat.le_of_ble_eq_true rfl) ?_
        obtain ⟨hnr, h⟩ := h
        have hP9 := hP
        rw [hQ]
        exact W.zret hx hb hr hnr (fun t ht hW => ⟨⟨_, (Ob, wb, dA, wA), rfl, pE_i h hBk, by rw [ht]; exact hP9, va_K.moved hW.alike hK, hD⟩, hS.F ht⟩) hS.2.2 dL_step_481
  replace h := pf_f c46 h
  rcases Decidable.em ((jrem v3 14 : Int32) = 5) with c53 | c53
  · replace h := pf_t c53 h
    have ec53 : w1 = 5 := ew1.trans c53
    refine lv_tableIn (off := 457) (tgt := 482) hx hb dL_step_25 (by rw [ec53]; decide) (by rw [ec53]; decide) (by rw [ec53]; rfl) (by decide) ?_
    refine lv_aload_n hx hb dL_step_482 rfl (lv_at hl 2 rfl) ?_
    refine lv_iload hx hb dL_step_483 (lv_at hl 1 rfl) ?_
    refine lv_iload hx hb dL_step_485 (lv_at hl 0 rfl) ?_
    refine lv_iload hx hb dL_step_487 (lv_at hl 7 rfl) ?_
    refine lv_iconst (v := 5) hx hb dL_step_489 (by decide) ?_
    refine lv_idiv hx hb dL_step_490 (by decide) ?_
    refine lv_sipush (v := 19999) hx hb dL_step_491 (by decide) ?_
    refine lv_irem hx hb dL_step_494 (by decide) ?_
    refine lv_sipush (v := 9999) hx hb dL_step_495 (by decide) ?_
    refine lv_isub hx hb dL_step_498 ?_
    have hP2 : va_P D vwCl ([(qw, .inl (k 0, 6, .inl wA)), (qd, .inl (k 0, 3, .inl dA))] ++ wb) H := hP
    have hD2 : va_D A ([(qw, .inl (k 0, 6, .inl wA)), (qd, .inl (k 0, 3, .inl dA))] ++ wb) := hD
    have hPc := vs_r hP2
    have hDc := vd_r hD2
    have hFc := vs_free hDc hS hA
    obtain ⟨fs9, hb9⟩ := isBk_head hBk
    have hM9 := bk_together l D k hBk h
    refine xc_iB (va_runV (mc := 0) (ms := 0) (As := [.int (jrem v4 6), .int (jrem (((jrem v4 6) + 1) + (jrem v5 5)) 6), .int ((jrem (v5 / 5) 19999) - 9999)]) (rest := []) ⟨hx, hb, hml, hown, hts⟩ (hM9 H.size) (cwV 3 hts gL_step_X6_together rfl rfl rfl (by decide +kernel) ⟨Nat.le_of_ble_eq_true rfl, Nat.le_of_ble_eq_true rfl⟩) ⟨pn_blind, va_recv hK hPc (ci := 6) (q0 := 0) rfl hb9, pn_start hPc hK hDc hNW⟩ rfl rfl hl.1 rfl (lv_room (Nat.le_of_ble_eq_true rfl)) dL_step_499 ⟨Nat.le_of_ble_eq_true rfl, Nat.le_of_ble_eq_true rfl⟩) hS hFc (fun r54 Ob54 wb54 H1 locs h hBk9 hP1 hD1 hk1 hS => ?_)
    obtain ⟨hP, hD⟩ := vs_joinR hP2 hD2 hFc hk1 hP1 hD1
    clear hP1 hD1 hk1 hFc hPc hDc hP2 hD2
    replace hBk := hBk9
    clear hBk9
    generalize H1 = H at hP hS ⊢
    replace hP : va_P D vwCl ([(qw, .inl (k 0, 6, .inl wA)), (qd, .inl (k 0, 3, .inl dA))] ++ wb54) H := hP
    replace hD : va_D A ([(qw, .inl (k 0, 6, .inl wA)), (qd, .inl (k 0, 3, .inl dA))] ++ wb54) := hD
    obtain ⟨wb, hwb⟩ : ∃ z, z = wb54 := ⟨_, rfl⟩
    subst hwb
    clear hM9
    refine lv_istore (lv' := [(14, .int r54), (7, .int (jrem (((jrem v4 6) + 1) + (jrem v5 5)) 6)), (6, .int (jrem v4 6)), (0, .ref a0), (1, .ref qd), (2, .ref qw), (3, .int v3), (4, .int v4), (5, .int v5)]) hx hb dL_step_502 hl (by decide) rfl (fun ls hl => ?_)
    refine lv_iload hx hb dL_step_504 (lv_at hl 0 rfl) ?_
    refine lv_sipush (v := -9999) hx hb dL_step_506 (by decide) ?_
    refine lv_icmp_lt (tgt := 559) hx hb dL_step_509 (by decide) (fun c55 => ?_) (fun c55 => ?_)
    · replace h := pf_t c55 h
      refine lv_iconst (v := 0) hx hb dL_step_559 (by decide) ?_
      refine W.widen (k := 24) (n := 1287) (Nat.le_of_ble_eq_true rfl) (Nat.le_of_ble_eq_true rfl) ?_
      obtain ⟨hnr, h⟩ := h
      have hP9 := hP
      rw [hQ]
      exact W.zret hx hb hr hnr (fun t ht hW => ⟨⟨_, (Ob54, wb, dA, wA), rfl, pE_i h hBk, by rw [ht]; exact hP9, va_K.moved hW.alike hK, hD⟩, hS.F ht⟩) hS.2.2 dL_step_560
    · replace h := pf_f c55 h
      refine lv_iload hx hb dL_step_512 (lv_at hl 0 rfl) ?_
      refine lv_sipush (v := 9999) hx hb dL_step_514 (by decide) ?_
      refine lv_icmp_gt (tgt := 559) hx hb dL_step_517 (by decide) (fun c56 => ?_) (fun c56 => ?_)
      · replace h := pf_t c56 h
        refine lv_iconst (v := 0) hx hb dL_step_559 (by decide) ?_
        refine W.widen (k := 24) (n := 1287) (Nat.le_of_ble_eq_true rfl) (Nat.le_of_ble_eq_true rfl) ?_
        obtain ⟨hnr, h⟩ := h
        have hP9 := hP
        rw [hQ]
        exact W.zret hx hb hr hnr (fun t ht hW => ⟨⟨_, (Ob54, wb, dA, wA), rfl, pE_i h hBk, by rw [ht]; exact hP9, va_K.moved hW.alike hK, hD⟩, hS.F ht⟩) hS.2.2 dL_step_560
      · replace h := pf_f c56 h
        refine lv_aload_n hx hb dL_step_520 rfl (lv_at hl 3 rfl) ?_
        refine lv_iload hx hb dL_step_521 (lv_at hl 1 rfl) ?_
        refine lv_iload hx hb dL_step_523 (lv_at hl 2 rfl) ?_
        refine lv_iload hx hb dL_step_525 (lv_at hl 8 rfl) ?_
        refine lv_iconst (v := 5) hx hb dL_step_527 (by decide) ?_
        refine lv_idiv hx hb dL_step_528 (by decide) ?_
        refine lv_sipush (v := 19999) hx hb dL_step_529 (by decide) ?_
        refine lv_irem hx hb dL_step_532 (by decide) ?_
        refine lv_sipush (v := 9999) hx hb dL_step_533 (by decide) ?_
        refine lv_isub hx hb dL_step_536 ?_
        have hP2 : va_P D vwCl ([(qw, .inl (k 0, 6, .inl wA)), (qd, .inl (k 0, 3, .inl dA))] ++ wb) H := hP
        have hD2 : va_D A ([(qw, .inl (k 0, 6, .inl wA)), (qd, .inl (k 0, 3, .inl dA))] ++ wb) := hD
        have hPc := vs_r hP2
        have hDc := vd_r hD2
        have hFc := vs_free hDc hS hA
        obtain ⟨fs9, hb9⟩ := isBk_head hBk
        have hM9 := bk_together l D k hBk h
        refine xc_iB (va_runV (mc := 0) (ms := 0) (As := [.int (jrem (((jrem v4 6) + 1) + (jrem v5 5)) 6), .int (jrem v4 6), .int ((jrem (v5 / 5) 19999) - 9999)]) (rest := []) ⟨hx, hb, hml, hown, hts⟩ (hM9 H.size) (cwV 3 hts gL_step_X6_together rfl rfl rfl (by decide +kernel) ⟨Nat.le_of_ble_eq_true rfl, Nat.le_of_ble_eq_true rfl⟩) ⟨pn_blind, va_recv hK hPc (ci := 6) (q0 := 0) rfl hb9, pn_start hPc hK hDc hNW⟩ rfl rfl hl.1 rfl (lv_room (Nat.le_of_ble_eq_true rfl)) dL_step_537 ⟨Nat.le_of_ble_eq_true rfl, Nat.le_of_ble_eq_true rfl⟩) hS hFc (fun r57 Ob57 wb57 H1 locs h hBk9 hP1 hD1 hk1 hS => ?_)
        obtain ⟨hP, hD⟩ := vs_joinR hP2 hD2 hFc hk1 hP1 hD1
        clear hP1 hD1 hk1 hFc hPc hDc hP2 hD2
        replace hBk := hBk9
        clear hBk9
        generalize H1 = H at hP hS ⊢
        replace hP : va_P D vwCl ([(qw, .inl (k 0, 6, .inl wA)), (qd, .inl (k 0, 3, .inl dA))] ++ wb57) H := hP
        replace hD : va_D A ([(qw, .inl (k 0, 6, .inl wA)), (qd, .inl (k 0, 3, .inl dA))] ++ wb57) := hD
        obtain ⟨wb, hwb⟩ : ∃ z, z = wb57 := ⟨_, rfl⟩
        subst hwb
        clear hM9
        refine lv_iload hx hb dL_step_540 (lv_at hl 8 rfl) ?_
        refine lv_iconst (v := 5) hx hb dL_step_542 (by decide) ?_
        refine lv_idiv hx hb dL_step_543 (by decide) ?_
        refine lv_sipush (v := 19999) hx hb dL_step_544 (by decide) ?_
        refine lv_irem hx hb dL_step_547 (by decide) ?_
        refine lv_sipush (v := 9999) hx hb dL_step_548 (by decide) ?_
        refine lv_isub hx hb dL_step_551 ?_
        refine lv_icmp_ne (tgt := 559) hx hb dL_step_552 (by decide) (fun c58 => ?_) (fun c58 => ?_)
        · replace h := pf_f c58 h
          refine lv_iconst (v := 0) hx hb dL_step_559 (by decide) ?_
          refine W.widen (k := 24) (n := 1287) (Nat.le_of_ble_eq_true rfl) (Nat.le_of_ble_eq_true rfl) ?_
          obtain ⟨hnr, h⟩ := h
          have hP9 := hP
          rw [hQ]
          exact W.zret hx hb hr hnr (fun t ht hW => ⟨⟨_, (Ob57, wb, dA, wA), rfl, pE_i h hBk, by rw [ht]; exact hP9, va_K.moved hW.alike hK, hD⟩, hS.F ht⟩) hS.2.2 dL_step_560
        · replace h := pf_t c58 h
          refine lv_iconst (v := 1) hx hb dL_step_555 (by decide) ?_
          refine lv_goto (tgt := 560) hx hb dL_step_556 (by decide) ?_
          refine W.widen (k := 24) (n := 1287) (Nat.le_of_ble_eq_true rfl) (Nat.le_of_ble_eq_true rfl) ?_
          obtain ⟨hnr, h⟩ := h
          have hP9 := hP
          rw [hQ]
          exact W.zret hx hb hr hnr (fun t ht hW => ⟨⟨_, (Ob57, wb, dA, wA), rfl, pE_i h hBk, by rw [ht]; exact hP9, va_K.moved hW.alike hK, hD⟩, hS.F ht⟩) hS.2.2 dL_step_560
  replace h := pf_f c53 h
  rcases Decidable.em ((jrem v3 14 : Int32) = 6) with c59 | c59
  · replace h := pf_t c59 h
    have ec59 : w1 = 6 := ew1.trans c59
    refine lv_tableIn (off := 536) (tgt := 561) hx hb dL_step_25 (by rw [ec59]; decide) (by rw [ec59]; decide) (by rw [ec59]; rfl) (by decide) ?_
    exact BH_561  _ _ _ h _ _ _ _ hBk hP hD hS (lv_sub hl [2, 3, 6, 7] rfl)
  replace h := pf_f c59 h
  rcases Decidable.em ((jrem v3 14 : Int32) = 7) with c61 | c61
  · replace h := pf_t c61 h
    have ec61 : w1 = 7 := ew1.trans c61
    refine lv_tableIn (off := 536) (tgt := 561) hx hb dL_step_25 (by rw [ec61]; decide) (by rw [ec61]; decide) (by rw [ec61]; rfl) (by decide) ?_
    exact BH_561  _ _ _ h _ _ _ _ hBk hP hD hS (lv_sub hl [2, 3, 6, 7] rfl)
  replace h := pf_f c61 h
  rcases Decidable.em ((jrem v3 14 : Int32) = 8) with c62 | c62
  · replace h := pf_t c62 h
    have ec62 : w1 = 8 := ew1.trans c62
    refine lv_tableIn (off := 536) (tgt := 561) hx hb dL_step_25 (by rw [ec62]; decide) (by rw [ec62]; decide) (by rw [ec62]; rfl) (by decide) ?_
    exact BH_561  _ _ _ h _ _ _ _ hBk hP hD hS (lv_sub hl [2, 3, 6, 7] rfl)
  replace h := pf_f c62 h
  rcases Decidable.em ((jrem v3 14 : Int32) = 9) with c63 | c63
  · replace h := pf_t c63 h
    have ec63 : w1 = 9 := ew1.trans c63
    refine lv_tableIn (off := 536) (tgt := 561) hx hb dL_step_25 (by rw [ec63]; decide) (by rw [ec63]; decide) (by rw [ec63]; rfl) (by decide) ?_
    exact BH_561  _ _ _ h _ _ _ _ hBk hP hD hS (lv_sub hl [2, 3, 6, 7] rfl)
  replace h := pf_f c63 h
  rcases Decidable.em ((jrem v3 14 : Int32) = 10) with c64 | c64
  · replace h := pf_t c64 h
    have ec64 : w1 = 10 := ew1.trans c64
    refine lv_tableIn (off := 546) (tgt := 571) hx hb dL_step_25 (by rw [ec64]; decide) (by rw [ec64]; decide) (by rw [ec64]; rfl) (by decide) ?_
    refine lv_aload_n hx hb dL_step_571 rfl (lv_at hl 2 rfl) ?_
    refine lv_iconst (v := 1) hx hb dL_step_572 (by decide) ?_
    refine lv_iload hx hb dL_step_573 (lv_at hl 6 rfl) ?_
    refine lv_bipush (v := 30) hx hb dL_step_575 (by decide) ?_
    refine lv_irem hx hb dL_step_577 (by decide) ?_
    refine lv_iadd hx hb dL_step_578 ?_
    refine lv_iload hx hb dL_step_579 (lv_at hl 7 rfl) ?_
    refine lv_iconst (v := 5) hx hb dL_step_581 (by decide) ?_
    refine lv_irem hx hb dL_step_582 (by decide) ?_
    refine lv_if_ne (tgt := 590) hx hb dL_step_583 (by decide) (fun c65 => ?_) (fun c65 => ?_)
    · replace h := pf_f c65 h
      refine lv_iload hx hb dL_step_590 (lv_at hl 7 rfl) ?_
      refine lv_iconst (v := 5) hx hb dL_step_592 (by decide) ?_
      refine lv_idiv hx hb dL_step_593 (by decide) ?_
      refine lv_sipush (v := 1000) hx hb dL_step_594 (by decide) ?_
      refine lv_irem hx hb dL_step_597 (by decide) ?_
      exact BH_598  _ _ _ _ _ h _ _ _ _ hBk hP hD hS (lv_sub hl [3] rfl)
    · replace h := pf_t c65 h
      refine lv_iconst (v := -1) hx hb dL_step_586 (by decide) ?_
      refine lv_goto (tgt := 598) hx hb dL_step_587 (by decide) ?_
      exact BH_598  _ _ _ _ _ h _ _ _ _ hBk hP hD hS (lv_sub hl [3] rfl)
  replace h := pf_f c64 h
  rcases Decidable.em ((jrem v3 14 : Int32) = 11) with c80 | c80
  · replace h := pf_t c80 h
    have ec80 : w1 = 11 := ew1.trans c80
    refine lv_tableIn (off := 661) (tgt := 686) hx hb dL_step_25 (by rw [ec80]; decide) (by rw [ec80]; decide) (by rw [ec80]; rfl) (by decide) ?_
    refine lv_aload_n hx hb dL_step_686 rfl (lv_at hl 2 rfl) ?_
    refine lv_iload hx hb dL_step_687 (lv_at hl 7 rfl) ?_
    refine lv_ldc (v := 65537) hx hb hown kc72 dL_step_689 ?_
    refine lv_irem hx hb dL_step_691 (by decide) ?_
    have hP2 : va_P D vwCl ([(qw, .inl (k 0, 6, .inl wA)), (qd, .inl (k 0, 3, .inl dA))] ++ wb) H := hP
    have hD2 : va_D A ([(qw, .inl (k 0, 6, .inl wA)), (qd, .inl (k 0, 3, .inl dA))] ++ wb) := hD
    have hPc := vs_r hP2
    have hDc := vd_r hD2
    have hFc := vs_free hDc hS hA
    obtain ⟨fs9, hb9⟩ := isBk_head hBk
    have hM9 := bk_seed l D k hBk h
    refine xc_iB (va_runV (mc := 0) (ms := 0) (As := [.int (jrem v5 65537)]) (rest := []) ⟨hx, hb, hml, hown, hts⟩ (hM9 H.size) (cwV 1 hts gL_step_X6_seed rfl rfl rfl (by decide +kernel) ⟨Nat.le_of_ble_eq_true rfl, Nat.le_of_ble_eq_true rfl⟩) ⟨pn_blind, va_recv hK hPc (ci := 6) (q0 := 0) rfl hb9, pn_start hPc hK hDc hNW⟩ rfl rfl hl.1 rfl (lv_room (Nat.le_of_ble_eq_true rfl)) dL_step_692 ⟨Nat.le_of_ble_eq_true rfl, Nat.le_of_ble_eq_true rfl⟩) hS hFc (fun r81 Ob81 wb81 H1 locs h hBk9 hP1 hD1 hk1 hS => ?_)
    obtain ⟨hP, hD⟩ := vs_joinR hP2 hD2 hFc hk1 hP1 hD1
    clear hP1 hD1 hk1 hFc hPc hDc hP2 hD2
    replace hBk := hBk9
    clear hBk9
    generalize H1 = H at hP hS ⊢
    replace hP : va_P D vwCl ([(qw, .inl (k 0, 6, .inl wA)), (qd, .inl (k 0, 3, .inl dA))] ++ wb81) H := hP
    replace hD : va_D A ([(qw, .inl (k 0, 6, .inl wA)), (qd, .inl (k 0, 3, .inl dA))] ++ wb81) := hD
    obtain ⟨wb, hwb⟩ : ∃ z, z = wb81 := ⟨_, rfl⟩
    subst hwb
    clear hM9
    refine lv_istore (lv' := [(17, .int r81), (7, .int (jrem (((jrem v4 6) + 1) + (jrem v5 5)) 6)), (6, .int (jrem v4 6)), (0, .ref a0), (1, .ref qd), (2, .ref qw), (3, .int v3), (4, .int v4), (5, .int v5)]) hx hb dL_step_695 hl (by decide) rfl (fun ls hl => ?_)
    refine lv_iload hx hb dL_step_697 (lv_at hl 0 rfl) ?_
    refine lv_aload_n hx hb dL_step_699 rfl (lv_at hl 4 rfl) ?_
    refine lv_iconst (v := 2) hx hb dL_step_700 (by decide) ?_
    obtain ⟨hi82, h⟩ := h
    refine va_iald hx hb hK hP 1 0 rfl rfl hi82 dL_step_701 ?_
    refine lv_icmp_eq (tgt := 712) hx hb dL_step_702 (by decide) (fun c83 => ?_) (fun c83 => ?_)
    · replace h := pf_t c83 h
      exact BH_712  _ _ _ _ h _ _ _ _ hBk hP hD hS (lv_sub hl [4, 8, 0] rfl)
    · replace h := pf_f c83 h
      refine lv_aload_n hx hb dL_step_705 rfl (lv_at hl 4 rfl) ?_
      refine lv_iconst (v := 2) hx hb dL_step_706 (by decide) ?_
      obtain ⟨hi88, h⟩ := h
      refine va_iald hx hb hK hP 1 0 rfl rfl hi88 dL_step_707 ?_
      refine lv_iconst (v := -1) hx hb dL_step_708 (by decide) ?_
      refine lv_icmp_ne (tgt := 716) hx hb dL_step_709 (by decide) (fun c89 => ?_) (fun c89 => ?_)
      · replace h := pf_f c89 h
        refine lv_iconst (v := 0) hx hb dL_step_716 (by decide) ?_
        exact BH_717  _ _ _ _ _ h _ _ _ _ hBk hP hD hS (lv_sub hl [4, 8, 0] rfl)
      · replace h := pf_t c89 h
        exact BH_712  _ _ _ _ h _ _ _ _ hBk hP hD hS (lv_sub hl [4, 8, 0] rfl)
  replace h := pf_f c80 h
  refine lv_tableOut (tgt := 750) hx hb dL_step_25 (by have z0 := lv_neT (a := 0) (fun q => c2 (ew1.symm.trans q)) rfl; have z1 := lv_neT (a := 1) (fun q => c21 (ew1.symm.trans q)) rfl; have z2 := lv_neT (a := 2) (fun q => c22 (ew1.symm.trans q)) rfl; have z3 := lv_neT (a := 3) (fun q => c45 (ew1.symm.trans q)) rfl; have z4 := lv_neT (a := 4) (fun q => c46 (ew1.symm.trans q)) rfl; have z5 := lv_neT (a := 5) (fun q => c53 (ew1.symm.trans q)) rfl; have z6 := lv_neT (a := 6) (fun q => c59 (ew1.symm.trans q)) rfl; have z7 := lv_neT (a := 7) (fun q => c61 (ew1.symm.trans q)) rfl; have z8 := lv_neT (a := 8) (fun q => c62 (ew1.symm.trans q)) rfl; have z9 := lv_neT (a := 9) (fun q => c63 (ew1.symm.trans q)) rfl; have z10 := lv_neT (a := 10) (fun q => c64 (ew1.symm.trans q)) rfl; have z11 := lv_neT (a := 11) (fun q => c80 (ew1.symm.trans q)) rfl; omega) (by decide) ?_
  refine lv_aload_n hx hb dL_step_750 rfl (lv_at hl 3 rfl) ?_
  refine lv_iconst (v := 0) hx hb dL_step_751 (by decide) ?_
  obtain ⟨hi90, h⟩ := h
  refine va_iald hx hb hK hP 1 0 rfl rfl hi90 dL_step_752 ?_
  refine lv_if_ne (tgt := 758) hx hb dL_step_753 (by decide) (fun c91 => ?_) (fun c91 => ?_)
  · replace h := pf_f c91 h
    refine lv_aload_n hx hb dL_step_758 rfl (lv_at hl 2 rfl) ?_
    refine lv_iload hx hb dL_step_759 (lv_at hl 6 rfl) ?_
    refine lv_aload_n hx hb dL_step_761 rfl (lv_at hl 3 rfl) ?_
    refine lv_iconst (v := 0) hx hb dL_step_762 (by decide) ?_
    obtain ⟨hi92, h⟩ := h
    refine va_iald hx hb hK hP 1 0 rfl rfl hi92 dL_step_763 ?_
    obtain ⟨hz93, h⟩ := h
    refine lv_irem hx hb dL_step_764 hz93 ?_
    refine lv_iconst (v := 1) hx hb dL_step_765 (by decide) ?_
    refine lv_iload hx hb dL_step_766 (lv_at hl 7 rfl) ?_
    refine lv_bipush (v := 100) hx hb dL_step_768 (by decide) ?_
    refine lv_irem hx hb dL_step_770 (by decide) ?_
    refine lv_iadd hx hb dL_step_771 ?_
    have hP2 : va_P D vwCl ([(qw, .inl (k 0, 6, .inl wA)), (qd, .inl (k 0, 3, .inl dA))] ++ wb) H := hP
    have hD2 : va_D A ([(qw, .inl (k 0, 6, .inl wA)), (qd, .inl (k 0, 3, .inl dA))] ++ wb) := hD
    have hPc := vs_r hP2
    have hDc := vd_r hD2
    have hFc := vs_free hDc hS hA
    obtain ⟨fs9, hb9⟩ := isBk_head hBk
    have hM9 := bk_draw l D k hBk h
    refine xc_iB (va_runV (mc := 0) (ms := 0) (As := [.int (jrem v4 (dA (0 : Int32).toNatClampNeg)), .int (1 + (jrem v5 100))]) (rest := []) ⟨hx, hb, hml, hown, hts⟩ (hM9 H.size) (cwV 2 hts gL_step_X6_draw rfl rfl rfl (by decide +kernel) ⟨Nat.le_of_ble_eq_true rfl, Nat.le_of_ble_eq_true rfl⟩) ⟨pn_blind, va_recv hK hPc (ci := 6) (q0 := 0) rfl hb9, pn_start hPc hK hDc hNW⟩ rfl rfl hl.1 rfl (lv_room (Nat.le_of_ble_eq_true rfl)) dL_step_772 ⟨Nat.le_of_ble_eq_true rfl, Nat.le_of_ble_eq_true rfl⟩) hS hFc (fun r94 Ob94 wb94 H1 locs h hBk9 hP1 hD1 hk1 hS => ?_)
    obtain ⟨hP, hD⟩ := vs_joinR hP2 hD2 hFc hk1 hP1 hD1
    clear hP1 hD1 hk1 hFc hPc hDc hP2 hD2
    replace hBk := hBk9
    clear hBk9
    generalize H1 = H at hP hS ⊢
    replace hP : va_P D vwCl ([(qw, .inl (k 0, 6, .inl wA)), (qd, .inl (k 0, 3, .inl dA))] ++ wb94) H := hP
    replace hD : va_D A ([(qw, .inl (k 0, 6, .inl wA)), (qd, .inl (k 0, 3, .inl dA))] ++ wb94) := hD
    obtain ⟨wb, hwb⟩ : ∃ z, z = wb94 := ⟨_, rfl⟩
    subst hwb
    clear hM9
    refine lv_istore (lv' := [(18, .int r94), (7, .int (jrem (((jrem v4 6) + 1) + (jrem v5 5)) 6)), (6, .int (jrem v4 6)), (0, .ref a0), (1, .ref qd), (2, .ref qw), (3, .int v3), (4, .int v4), (5, .int v5)]) hx hb dL_step_775 hl (by decide) rfl (fun ls hl => ?_)
    refine lv_aload_n hx hb dL_step_777 rfl (lv_at hl 3 rfl) ?_
    refine lv_iload hx hb dL_step_778 (lv_at hl 7 rfl) ?_
    refine lv_aload_n hx hb dL_step_780 rfl (lv_at hl 4 rfl) ?_
    refine lv_iconst (v := 0) hx hb dL_step_781 (by decide) ?_
    obtain ⟨hi95, h⟩ := h
    refine va_iald hx hb hK hP 1 0 rfl rfl hi95 dL_step_782 ?_
    obtain ⟨hz96, h⟩ := h
    refine lv_irem hx hb dL_step_783 hz96 ?_
    refine lv_iconst (v := 4) hx hb dL_step_784 (by decide) ?_
    have hP2 : va_P D vwCl ([(qw, .inl (k 0, 6, .inl wA)), (qd, .inl (k 0, 3, .inl dA))] ++ wb) H := hP
    have hD2 : va_D A ([(qw, .inl (k 0, 6, .inl wA)), (qd, .inl (k 0, 3, .inl dA))] ++ wb) := hD
    have hPc := vs_r hP2
    have hDc := vd_r hD2
    have hFc := vs_free hDc hS hA
    obtain ⟨fs9, hb9⟩ := isBk_head hBk
    have hM9 := bk_budget l D k hBk h
    refine xc_lB (va_runV (mc := 0) (ms := 0) (As := [.int (jrem v4 (dA (0 : Int32).toNatClampNeg)), .int 4]) (rest := []) ⟨hx, hb, hml, hown, hts⟩ (hM9 H.size) (cwV 2 hts gL_step_X6_budget rfl rfl rfl (by decide +kernel) ⟨Nat.le_of_ble_eq_true rfl, Nat.le_of_ble_eq_true rfl⟩) ⟨pn_blind, va_recv hK hPc (ci := 6) (q0 := 0) rfl hb9, pn_start hPc hK hDc hNW⟩ rfl rfl hl.1 rfl (lv_room (Nat.le_of_ble_eq_true rfl)) dL_step_785 ⟨Nat.le_of_ble_eq_true rfl, Nat.le_of_ble_eq_true rfl⟩) hS hFc (fun r97 Ob97 wb97 H1 locs h hBk9 hP1 hD1 hk1 hS => ?_)
    obtain ⟨hP, hD⟩ := vs_joinR hP2 hD2 hFc hk1 hP1 hD1
    clear hP1 hD1 hk1 hFc hPc hDc hP2 hD2
    replace hBk := hBk9
    clear hBk9
    generalize H1 = H at hP hS ⊢
    replace hP : va_P D vwCl ([(qw, .inl (k 0, 6, .inl wA)), (qd, .inl (k 0, 3, .inl dA))] ++ wb97) H := hP
    replace hD : va_D A ([(qw, .inl (k 0, 6, .inl wA)), (qd, .inl (k 0, 3, .inl dA))] ++ wb97) := hD
    obtain ⟨wb, hwb⟩ : ∃ z, z = wb97 := ⟨_, rfl⟩
    subst hwb
    clear hM9
    refine lv_ldc2 (v := -1) hx hb hown kc83 dL_step_788 ?_
    refine W.lcmp hx hb dL_step_791 ?_
    refine lv_if_eq (tgt := 799) hx hb dL_step_792 (by decide) (fun c98 => ?_) (fun c98 => ?_)
    · replace h := pf_t c98 h
      refine lv_iconst (v := 0) hx hb dL_step_799 (by decide) ?_
      exact BH_800  _ _ _ _ _ h _ _ _ _ hBk hP hD hS (lv_sub hl [4, 8, 0] rfl)
    · replace h := pf_f c98 h
      refine lv_iconst (v := 1) hx hb dL_step_795 (by decide) ?_
      refine lv_goto (tgt := 800) hx hb dL_step_796 (by decide) ?_
      exact BH_800  _ _ _ _ _ h _ _ _ _ hBk hP hD hS (lv_sub hl [4, 8, 0] rfl)
  · replace h := pf_t c91 h
    refine lv_iconst (v := 1) hx hb dL_step_756 (by decide) ?_
    refine W.widen (k := 24) (n := 1287) (Nat.le_of_ble_eq_true rfl) (Nat.le_of_ble_eq_true rfl) ?_
    obtain ⟨hnr, h⟩ := h
    have hP9 := hP
    rw [hQ]
    exact W.zret hx hb hr hnr (fun t ht hW => ⟨⟨_, (Ob, wb, dA, wA), rfl, pE_i h hBk, by rw [ht]; exact hP9, va_K.moved hW.alike hK, hD⟩, hS.F ht⟩) hS.2.2 dL_step_757
