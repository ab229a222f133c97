/-! ===== the law: what stands, its loop ===== -/
abbrev lwA (s : State) : Nat → Prop := fun q => s.heap.size ≤ q
def lwCtx (p : Program) (l : Launch) (e : Env) (s : State) (m : MethodId) (below : List Frame) (meth : Method) (c : Code) (D : va_G) (k : Nat → ClassId) (b L : Nat) (xs : Nat → Int32) : Prop :=
  p.tables.exec = Jvm.exec ∧ c.code = code ∧ c.maxLocals = 7 ∧ s.vm.findClass RL = some m.cls ∧ (∀ w ∈ wsL_law, w.before #[Value.ref b] s = true) ∧ va_X b L xs s s.heap ∧ b < s.heap.size ∧ va_K D vwCl (tyL k) s ∧ XP (lwA s) s s.heap ∧ NW s ∧ L ≤ 260 ∧ l.stackTraces = false
/-- the law at 72, with j steps made -/
def lwAt (p : Program) (l : Launch) (e : Env) (s : State) (m : MethodId) (below : List Frame) (meth : Method) (c : Code) (D : va_G) (k : Nat → ClassId) (b a0 qd qw T : Nat) (Q : State → Prop) (j : Nat) : Prop :=
  ∀ (o : OBk) (d w : Nat → Int32) (wb : va_W) (H : Heap) (locs : List Loc) (ls : Array Slot), IV o d w → isBk k a0 o wb → va_P D vwCl ([(qw, .inl (k 0, 6, .inl w)), (qd, .inl (k 0, 3, .inl d))] ++ wb) H → va_D (lwA s) ([(qw, .inl (k 0, 6, .inl w)), (qd, .inl (k 0, 3, .inl d))] ++ wb) → va_S (lwA s) s.heap H locs → lv_has ls 7 [(0, .ref b), (1, .ref a0), (2, .ref qd), (3, .ref qw), (4, .int 1), (5, .int (nI T)), (6, .int (nI j))] → W p l e room_1 s m #[Value.ref b] below meth c H locs (100 + 24 * j) (2000 + 1287 * j) Q (F0 m 72 ls [])
theorem dr_keep {D : va_G} {ws : va_W} {H H1 : Heap} (hP : va_P D vwCl ws H) (hk : ∀ q : Nat, q < H.size → ¬ va_A ([] : va_W) H.size q → H1[q]? = H[q]?) : va_P D vwCl ws H1 := hP.kept (fun i q hi => hk q.1 (hP i q hi).lt (fun z => by
  rcases z with ⟨k, e, hk⟩ | z
  · simp at hk
  · exact absurd (hP i q hi).lt (Nat.not_lt.mpr z)))
set_option maxHeartbeats 4000000 in
set_option maxRecDepth 100000 in
theorem law_loop {p : Program} {l : Launch} {e : Env} {s : State} {m : MethodId} {below : List Frame} {meth : Method} {c : Code} {D : va_G} {k : Nat → ClassId} {b L : Nat} {xs : Nat → Int32} {a0 qd qw T : Nat} (hr : meth.sig.returnType = ret) (hlocks : meth.locks = false) (C : lwCtx p l e s m below meth c D k b L xs) (hT : T ≤ 40) (hTL : 3 * T ≤ L) : ∀ (n j : Nat), T < j + n → j ≤ T → lwAt p l e s m below meth c D k b a0 qd qw T (lw_Z below #[Value.ref b] s) j := by
  intro n
  induction n with
  | zero =>
    intro j h1 h2
    exact absurd h2 (by omega)
  | succ n ih =>
    intro j h1 h2
    obtain ⟨hx, hb, hml, hown, hts, hX, hbl, hK, hXP, hNW, hL, hst⟩ := C
    intro o d w wb H locs ls hI hBk hP hD hS hl
    have hbA : ¬ lwA s b := Nat.not_le.mpr hbl
    have hA : ∀ q : Nat, s.heap.size ≤ q → lwA s q := fun _ h => h
    refine lv_iload hx hb dL_law_72 (lv_at hl 6 rfl) ?_
    refine lv_iload hx hb dL_law_74 (lv_at hl 5 rfl) ?_
    refine lv_icmp_ge (tgt := 153) hx hb dL_law_76 (by decide) (fun q => ?_) (fun q => ?_)
    · refine lv_iload hx hb dL_law_153 (lv_at hl 4 rfl) ?_
      refine va_forget (fun q hq => hS.2.2 q hq) ?_
      refine W.widen (k := 600104) (n := 7301314) (by omega) (by omega) ?_
      exact lw_ret hx hb hr hlocks dL_law_155
    · have hj : j < T := Nat.lt_of_not_le (fun z => q ((nI_leI (by omega) (by omega)).mpr z))
      refine lv_iload hx hb dL_law_79 (lv_at hl 4 rfl) ?_
      refine lv_if_eq (tgt := 153) hx hb dL_law_81 (by decide) (fun q => absurd q n10) (fun _ => ?_)
      refine lv_aload_n hx hb dL_law_84 rfl (lv_at hl 1 rfl) ?_
      refine lv_aload_n hx hb dL_law_85 rfl (lv_at hl 2 rfl) ?_
      refine lv_aload_n hx hb dL_law_86 rfl (lv_at hl 3 rfl) ?_
      refine lv_aload_n hx hb dL_law_87 rfl (lv_at hl 0 rfl) ?_
      refine lv_iconst (v := 3) hx hb dL_law_88 (by decide) ?_
      refine lv_iload hx hb dL_law_89 (lv_at hl 6 rfl) ?_
      refine lv_imul hx hb dL_law_91 ?_
      rw [show (3 : Int32) * nI j = nI (3 * j) from by rw [show (3 : Int32) = nI 3 from rfl, pk_mul]]
      refine va_calli (va_runS (As := [.ref b, .int (nI (3 * j))]) (rest := [.ref qw, .ref qd, .ref a0]) ⟨hx, hb, hml, hown, hts⟩ (met_L_draw l b L xs (by omega) (i := 3 * j) (by omega) H.size) (va_cwS 2 hts gL_law_L_draw rfl rfl rfl (by decide +kernel) ⟨Nat.le_of_ble_eq_true rfl, Nat.le_of_ble_eq_true rfl⟩) ⟨pd9_blind, pd9_start (Nat.lt_of_lt_of_le hbl hS.1) (hX.kept (hS.2.1 b hbl hbA))⟩ rfl rfl hl.1 rfl (lv_room (Nat.le_of_ble_eq_true rfl)) dL_law_92 ⟨by show 100 + 24 * j + 0 ≤ 600104; omega, by show 2000 + 1287 * j + 0 ≤ 7301314; omega⟩) hS (fun q hq z => by
        rcases z with ⟨k, e, hk⟩ | z
        · simp at hk
        · exact absurd hq (Nat.not_lt.mpr z)) (fun q z => by
        rcases z with ⟨k, e, hk⟩ | z
        · simp at hk
        · exact Nat.le_trans hS.1 z) (fun r9 u t H1 locs1 ht hvm hw hB hz hk1 hS1 => ?_)
      obtain ⟨n92, ln92, en92⟩ := hw
      rw [en92]
      replace hP := dr_keep hP hk1
      replace hS := hS1
      clear hk1 hS1 hz hB hvm ht
      generalize H1 = H at hP hS ⊢
      generalize locs1 = locs at hS ⊢
      refine W.widen (k := 100 + 24 * j) (n := 2000 + 1287 * j) (by omega) (by omega) ?_
      refine lv_aload_n hx hb dL_law_95 rfl (lv_at hl 0 rfl) ?_
      refine lv_iconst (v := 3) hx hb dL_law_96 (by decide) ?_
      refine lv_iload hx hb dL_law_97 (lv_at hl 6 rfl) ?_
      refine lv_imul hx hb dL_law_99 ?_
      rw [show (3 : Int32) * nI j = nI (3 * j) from by rw [show (3 : Int32) = nI 3 from rfl, pk_mul]]
      refine lv_iconst (v := nI 1) hx hb dL_law_100 (by decide) ?_
      refine lv_iadd hx hb dL_law_101 ?_
      rw [nI_add]
      refine va_calli (va_runS (As := [.ref b, .int (nI (3 * j + 1))]) (rest := [.int (nI n92), .ref qw, .ref qd, .ref a0]) ⟨hx, hb, hml, hown, hts⟩ (met_L_draw l b L xs (by omega) (i := 3 * j + 1) (by omega) H.size) (va_cwS 2 hts gL_law_L_draw rfl rfl rfl (by decide +kernel) ⟨Nat.le_of_ble_eq_true rfl, Nat.le_of_ble_eq_true rfl⟩) ⟨pd9_blind, pd9_start (Nat.lt_of_lt_of_le hbl hS.1) (hX.kept (hS.2.1 b hbl hbA))⟩ rfl rfl hl.1 rfl (lv_room (Nat.le_of_ble_eq_true rfl)) dL_law_102 ⟨by show 100 + 24 * j + 0 ≤ 600104; omega, by show 2000 + 1287 * j + 0 ≤ 7301314; omega⟩) hS (fun q hq z => by
        rcases z with ⟨k, e, hk⟩ | z
        · simp at hk
        · exact absurd hq (Nat.not_lt.mpr z)) (fun q z => by
        rcases z with ⟨k, e, hk⟩ | z
        · simp at hk
        · exact Nat.le_trans hS.1 z) (fun r9 u t H1 locs1 ht hvm hw hB hz hk1 hS1 => ?_)
      obtain ⟨n102, ln102, en102⟩ := hw
      rw [en102]
      replace hP := dr_keep hP hk1
      replace hS := hS1
      clear hk1 hS1 hz hB hvm ht
      generalize H1 = H at hP hS ⊢
      generalize locs1 = locs at hS ⊢
      refine W.widen (k := 100 + 24 * j) (n := 2000 + 1287 * j) (by omega) (by omega) ?_
      refine lv_aload_n hx hb dL_law_105 rfl (lv_at hl 0 rfl) ?_
      refine lv_iconst (v := 3) hx hb dL_law_106 (by decide) ?_
      refine lv_iload hx hb dL_law_107 (lv_at hl 6 rfl) ?_
      refine lv_imul hx hb dL_law_109 ?_
      rw [show (3 : Int32) * nI j = nI (3 * j) from by rw [show (3 : Int32) = nI 3 from rfl, pk_mul]]
      refine lv_iconst (v := nI 2) hx hb dL_law_110 (by decide) ?_
      refine lv_iadd hx hb dL_law_111 ?_
      rw [nI_add]
      refine va_calli (va_runS (As := [.ref b, .int (nI (3 * j + 2))]) (rest := [.int (nI n102), .int (nI n92), .ref qw, .ref qd, .ref a0]) ⟨hx, hb, hml, hown, hts⟩ (met_L_draw l b L xs (by omega) (i := 3 * j + 2) (by omega) H.size) (va_cwS 2 hts gL_law_L_draw rfl rfl rfl (by decide +kernel) ⟨Nat.le_of_ble_eq_true rfl, Nat.le_of_ble_eq_true rfl⟩) ⟨pd9_blind, pd9_start (Nat.lt_of_lt_of_le hbl hS.1) (hX.kept (hS.2.1 b hbl hbA))⟩ rfl rfl hl.1 rfl (lv_room (Nat.le_of_ble_eq_true rfl)) dL_law_112 ⟨by show 100 + 24 * j + 0 ≤ 600104; omega, by show 2000 + 1287 * j + 0 ≤ 7301314; omega⟩) hS (fun q hq z => by
        rcases z with ⟨k, e, hk⟩ | z
        · simp at hk
        · exact absurd hq (Nat.not_lt.mpr z)) (fun q z => by
        rcases z with ⟨k, e, hk⟩ | z
        · simp at hk
        · exact Nat.le_trans hS.1 z) (fun r9 u t H1 locs1 ht hvm hw hB hz hk1 hS1 => ?_)
      obtain ⟨n112, ln112, en112⟩ := hw
      rw [en112]
      replace hP := dr_keep hP hk1
      replace hS := hS1
      clear hk1 hS1 hz hB hvm ht
      generalize H1 = H at hP hS ⊢
      generalize locs1 = locs at hS ⊢
      refine W.widen (k := 100 + 24 * j) (n := 2000 + 1287 * j) (by omega) (by omega) ?_
      have hFc := vs_free hD hS hA
      have hM9 := met_L_step l hst D k a0 qd qw (nI n92) (nI n102) (nI n112) o d w (fun r o' d' w' => r = 1 ∧ IV o' d' w') (step_ok hI ln102 ln112 ln92 (fun o' d' w' h => ⟨rfl, h⟩)) wb hBk H.size
      refine xc_iE (w1 := fun wb dA wA => ([(qw, .inl (k 0, 6, .inl wA)), (qd, .inl (k 0, 3, .inl dA))] ++ wb)) (va_runS (mc := 24) (ms := 1287) (As := [.ref a0, .ref qd, .ref qw, .int (nI n92), .int (nI n102), .int (nI n112)]) (rest := []) ⟨hx, hb, hml, hown, hts⟩ hM9 (va_cwS 6 hts gL_law_L_step rfl rfl rfl (by decide +kernel) ⟨Nat.le_of_ble_eq_true rfl, Nat.le_of_ble_eq_true rfl⟩) ⟨pz_blind, pz_start hP hK hD (hXP.keep hS.2.1) hNW hFc⟩ rfl rfl hl.1 rfl (lv_room (Nat.le_of_ble_eq_true rfl)) dL_law_115 ⟨by show 100 + 24 * j + 24 ≤ 600104; omega, by show 2000 + 1287 * j + 1287 ≤ 7301314; omega⟩) hS hFc (fun r9 o9 wb9 d9 w9 H1 locs hk9 hBk9 hP1 hD1 hk1 hS => ?_)
      obtain ⟨er, hI9⟩ := hk9
      rw [er]
      clear er r9
      obtain ⟨hP2, hD2⟩ := vj_all hFc hP1 hD1
      clear hP1 hD1 hk1 hFc hM9 hP hD hI hBk
      replace hP2 : va_P D vwCl ([(qw, .inl (k 0, 6, .inl w9)), (qd, .inl (k 0, 3, .inl d9))] ++ wb9) H1 := hP2
      replace hD2 : va_D (lwA s) ([(qw, .inl (k 0, 6, .inl w9)), (qd, .inl (k 0, 3, .inl d9))] ++ wb9) := hD2
      refine W.widen (k := 100 + 24 * (j + 1)) (n := 2000 + 1287 * (j + 1)) (by omega) (by omega) ?_
      refine lv_if_eq (tgt := 144) hx hb dL_law_118 (by decide) (fun q => absurd q n10) (fun _ => ?_)
      have fin : ∀ (o : OBk) (d w : Nat → Int32) (wb : va_W) (H : Heap) (locs : List Loc) (ls : Array Slot), IV o d w → isBk k a0 o wb → va_P D vwCl ([(qw, .inl (k 0, 6, .inl w)), (qd, .inl (k 0, 3, .inl d))] ++ wb) H → va_D (lwA s) ([(qw, .inl (k 0, 6, .inl w)), (qd, .inl (k 0, 3, .inl d))] ++ wb) → va_S (lwA s) s.heap H locs → lv_has ls 7 [(0, .ref b), (1, .ref a0), (2, .ref qd), (3, .ref qw), (4, .int 1), (5, .int (nI T)), (6, .int (nI j))] → W p l e room_1 s m #[Value.ref b] below meth c H locs (100 + 24 * (j + 1)) (2000 + 1287 * (j + 1)) (lw_Z below #[Value.ref b] s) (F0 m 140 ls []) := by
        intro o d w wb H locs ls hI hBk hP hD hS hl
        refine lv_iconst (v := 1) hx hb dL_law_140 (by decide) ?_
        refine lv_goto (tgt := 145) hx hb dL_law_141 (by decide) ?_
        refine lv_istore (lv' := [(4, .int 1), (0, .ref b), (1, .ref a0), (2, .ref qd), (3, .ref qw), (5, .int (nI T)), (6, .int (nI j))]) hx hb dL_law_145 hl (by decide) rfl (fun ls hl => ?_)
        refine lv_iinc (v := nI (j + 1)) (lv' := [(6, .int (nI (j + 1))), (4, .int 1), (0, .ref b), (1, .ref a0), (2, .ref qd), (3, .ref qw), (5, .int (nI T))]) hx hb dL_law_147 hl (k := 6) rfl (by rw [show Int32.ofInt 1 = nI 1 from by decide +kernel, nI_add]) (by decide) rfl (fun ls hl => ?_)
        refine lv_goto (tgt := 72) hx hb dL_law_150 (by decide) ?_
        exact ih (j + 1) (by omega) (by omega) o d w wb H locs ls hI hBk hP hD hS (lv_sub hl [2, 3, 4, 5, 1, 6, 0] rfl)
      have h09 := hI9.2.1
      have c8 : oc o9 ≤ 8 := hI9.1.1
      refine lv_aload_n hx hb dL_law_121 rfl (lv_at hl 2 rfl) ?_
      refine lv_iconst (v := 0) hx hb dL_law_122 (by decide) ?_
      refine va_iald hx hb hK hP2 1 0 rfl rfl vi0 dL_law_123 ?_
      rw [cl0, h09]
      refine lv_if_eq (tgt := 140) hx hb dL_law_124 (by decide) (fun _ => fin o9 d9 w9 wb9 H1 locs ls hI9 hBk9 hP2 hD2 hS hl) (fun hne => ?_)
      have hpos : 0 < oc o9 := Nat.pos_of_ne_zero (fun z => hne (by rw [z]; rfl))
      refine lv_aload_n hx hb dL_law_127 rfl (lv_at hl 1 rfl) ?_
      refine lv_iload hx hb dL_law_128 (lv_at hl 6 rfl) ?_
      refine lv_aload_n hx hb dL_law_130 rfl (lv_at hl 2 rfl) ?_
      refine lv_iconst (v := 0) hx hb dL_law_131 (by decide) ?_
      refine va_iald hx hb hK hP2 1 0 rfl rfl vi0 dL_law_132 ?_
      rw [cl0, h09]
      refine lv_irem hx hb dL_law_133 hne ?_
      rw [show nI j - nI j / nI (oc o9) * nI (oc o9) = nI (j % oc o9) from jr_n (show j < 2 ^ 31 by omega) (oc o9) hpos (by omega)]
      have hPc := vs_r hP2
      have hDc := vd_r hD2
      have hFc := vs_free hDc hS hA
      refine xc_iB (va_runS (mc := 0) (ms := 0) (As := [.ref a0, .int (nI (j % oc o9))]) (rest := []) ⟨hx, hb, hml, hown, hts⟩ (met_L_isBudget l hst D k hBk9 (K9 := fun r o' => r = 1 ∧ IV o' d9 w9) (budget_ok hI9.1 (Nat.mod_lt j hpos) (fun fa hO => ⟨rfl, hO, hI9.2.1, hI9.2.2.1, hI9.2.2.2.1, hI9.2.2.2.2.1, hI9.2.2.2.2.2⟩)) H1.size) (va_cwS 2 hts gL_law_L_isBudget rfl rfl rfl (by decide +kernel) ⟨Nat.le_of_ble_eq_true rfl, Nat.le_of_ble_eq_true rfl⟩) ⟨pz_blind, pz_start hPc hK hDc (hXP.keep hS.2.1) hNW hFc⟩ rfl rfl hl.1 rfl (lv_room (Nat.le_of_ble_eq_true rfl)) dL_law_134 ⟨by show 100 + 24 * (j + 1) + 0 ≤ 600104; omega, by show 2000 + 1287 * (j + 1) + 0 ≤ 7301314; omega⟩) hS hFc (fun r8 o8 wb8 H2 locs hk8 hBk8 hP1 hD1 hk1 hS => ?_)
      obtain ⟨er, hI8⟩ := hk8
      rw [er]
      clear er r8
      obtain ⟨hP3, hD3⟩ := vs_joinR hP2 hD2 hFc hk1 hP1 hD1
      clear hP1 hD1 hk1 hFc hPc hDc
      refine W.widen (k := 100 + 24 * (j + 1)) (n := 2000 + 1287 * (j + 1)) (by omega) (by omega) ?_
      refine lv_if_eq (tgt := 144) hx hb dL_law_137 (by decide) (fun q => absurd q n10) (fun _ => ?_)
      exact fin o8 d9 w9 wb8 H2 locs ls hI8 hBk8 hP3 hD3 hS hl
