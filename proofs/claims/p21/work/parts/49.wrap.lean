/-! ===== the law's own methods: what each asks, and its contract ===== -/
theorem pf_t {c : Prop} [Decidable c] {X Y : Prop} (hc : c) (h : if c then X else Y) : X := by rw [if_pos hc] at h; exact h
theorem pf_f {c : Prop} [Decidable c] {X Y : Prop} (hc : ¬ c) (h : if c then X else Y) : Y := by rw [if_neg hc] at h; exact h
def PreZ (D : va_G) (k : Nat → ClassId) (ws : va_W) (sz : Nat) : State → Prop := fun U => PreX D k ws sz U ∧ NW U
theorem pz_blind {av : List Value} {D : va_G} {k : Nat → ClassId} {ws : va_W} {sz : Nat} : FrameBlind (va_Pc av (PreZ D k ws sz)) := fun a U g mk q => by
  obtain ⟨q0, q1, q2⟩ := q
  obtain ⟨r0, r1⟩ := px_blind (av := av) (D := D) (k := k) (ws := ws) (sz := sz) a U g mk ⟨q0, q1⟩
  exact ⟨r0, r1, NW.same (u := U) (U := U.calling g mk a) rfl q2⟩
theorem pz_start {av : List Value} {D : va_G} {k : Nat → ClassId} {ws : va_W} {H : Heap} {s : State} {A A1 : Nat → Prop} (hP : va_P D vwCl ws H) (hK : va_K D vwCl (tyL k) s) (hD : va_D A ws) (hX : XP A1 s H) (hNW : NW s) (hF : ∀ q, va_A ws H.size q → A1 q) : ∀ U : State, U.heap = H → s.WarmedH U.vm → va_Pc av (PreZ D k ws H.size) av.toArray U := fun U hU hW => by
  obtain ⟨a, b⟩ := px_start (av := av) hP hK hD hX hF U hU hW
  exact ⟨a, b, hNW.warm hW⟩
section XCB
variable {p : Program} {l : Launch} {e : Env} {R : Room} {s : State} {m : MethodId} {args : Array Value} {below : List Frame} {meth : Method} {c : Code} {H : Heap} {locs : List Loc} {cells slots : Nat} {Q : State → Prop}
variable {pc : Nat} {ls : Array Slot} {rest st0 : List Value} {a : Array Value} {A0 : Nat → Prop} {H0 : Heap} {mc ms : Nat} {D : va_G} {k : Nat → ClassId} {wc : va_W} {a0 : Nat}
theorem xc_iB {K : Int32 → OBk → Prop} (hr : va_Run p l e R s m args below meth c H locs cells slots mc ms (F0 m pc ls st0) rest (va_Qi (pB k a0 K) (fun u t => PostW D k (va_A wc H.size) u.2 t) (va_A wc H.size) a) (va_A wc H.size)) (hS : va_S A0 H0 H locs) (hF : ∀ q, va_A wc H.size q → A0 q)
    (kk : ∀ (r : Int32) (o : OBk) (w1 : va_W) (H1 : Heap) (locs1 : List Loc), K r o → isBk k a0 o w1 → va_P D vwCl w1 H1 → va_D (va_A wc H.size) w1 → (∀ q : Nat, q < H.size → ¬ va_A wc H.size q → H1[q]? = H[q]?) → va_S A0 H0 H1 locs1 → W p l e R s m args below meth c H1 locs1 (cells + mc) (slots + ms) Q (F0 m (pc + 3) ls (.int r :: rest))) : W p l e R s m args below meth c H locs cells slots Q (F0 m pc ls st0) :=
  va_calli hr hS (fun q _ h => hF q h) hF (fun r9 u t H1 locs1 ht hvm hw hB hz hk hS => by obtain ⟨a, b, c⟩ := hB; rw [ht] at a; exact kk r9 u.1 u.2 H1 locs1 hw.1 hw.2 a c hk hS)
theorem xc_lB {K : Int64 → OBk → Prop} (hr : va_Run p l e R s m args below meth c H locs cells slots mc ms (F0 m pc ls st0) rest (va_Ql (pBL k a0 K) (fun u t => PostW D k (va_A wc H.size) u.2 t) (va_A wc H.size) a) (va_A wc H.size)) (hS : va_S A0 H0 H locs) (hF : ∀ q, va_A wc H.size q → A0 q)
    (kk : ∀ (r : Int64) (o : OBk) (w1 : va_W) (H1 : Heap) (locs1 : List Loc), K r o → isBk k a0 o w1 → va_P D vwCl w1 H1 → va_D (va_A wc H.size) w1 → (∀ q : Nat, q < H.size → ¬ va_A wc H.size q → H1[q]? = H[q]?) → va_S A0 H0 H1 locs1 → W p l e R s m args below meth c H1 locs1 (cells + mc) (slots + ms) Q (F0 m (pc + 3) ls (.long r :: rest))) : W p l e R s m args below meth c H locs cells slots Q (F0 m pc ls st0) :=
  va_calll hr hS (fun q _ h => hF q h) hF (fun r9 u t H1 locs1 ht hvm hw hB hz hk hS => by obtain ⟨a, b, c⟩ := hB; rw [ht] at a; exact kk r9 u.1 u.2 H1 locs1 hw.1 hw.2 a c hk hS)
theorem xc_iD {w1 : va_W → (Nat → Int32) → va_W} {K : Int32 → OBk → (Nat → Int32) → Prop} (hr : va_Run p l e R s m args below meth c H locs cells slots mc ms (F0 m pc ls st0) rest (va_Qi (pD k a0 K) (fun u t => PostW D k (va_A wc H.size) (w1 u.2.1 u.2.2) t) (va_A wc H.size) a) (va_A wc H.size)) (hS : va_S A0 H0 H locs) (hF : ∀ q, va_A wc H.size q → A0 q)
    (kk : ∀ (r : Int32) (o : OBk) (wb : va_W) (dA : Nat → Int32) (H1 : Heap) (locs1 : List Loc), K r o dA → isBk k a0 o wb → va_P D vwCl (w1 wb dA) H1 → va_D (va_A wc H.size) (w1 wb dA) → (∀ q : Nat, q < H.size → ¬ va_A wc H.size q → H1[q]? = H[q]?) → va_S A0 H0 H1 locs1 → W p l e R s m args below meth c H1 locs1 (cells + mc) (slots + ms) Q (F0 m (pc + 3) ls (.int r :: rest))) : W p l e R s m args below meth c H locs cells slots Q (F0 m pc ls st0) :=
  va_calli hr hS (fun q _ h => hF q h) hF (fun r9 u t H1 locs1 ht hvm hw hB hz hk hS => by obtain ⟨a, b, c⟩ := hB; rw [ht] at a; exact kk r9 u.1 u.2.1 u.2.2 H1 locs1 hw.1 hw.2 a c hk hS)
theorem xc_iE {w1 : va_W → (Nat → Int32) → (Nat → Int32) → va_W} {K : Int32 → OBk → (Nat → Int32) → (Nat → Int32) → Prop} (hr : va_Run p l e R s m args below meth c H locs cells slots mc ms (F0 m pc ls st0) rest (va_Qi (pE k a0 K) (fun u t => PostW D k (va_A wc H.size) (w1 u.2.1 u.2.2.1 u.2.2.2) t) (va_A wc H.size) a) (va_A wc H.size)) (hS : va_S A0 H0 H locs) (hF : ∀ q, va_A wc H.size q → A0 q)
    (kk : ∀ (r : Int32) (o : OBk) (wb : va_W) (dA wA : Nat → Int32) (H1 : Heap) (locs1 : List Loc), K r o dA wA → isBk k a0 o wb → va_P D vwCl (w1 wb dA wA) H1 → va_D (va_A wc H.size) (w1 wb dA wA) → (∀ q : Nat, q < H.size → ¬ va_A wc H.size q → H1[q]? = H[q]?) → va_S A0 H0 H1 locs1 → W p l e R s m args below meth c H1 locs1 (cells + mc) (slots + ms) Q (F0 m (pc + 3) ls (.int r :: rest))) : W p l e R s m args below meth c H locs cells slots Q (F0 m pc ls st0) :=
  va_calli hr hS (fun q _ h => hF q h) hF (fun r9 u t H1 locs1 ht hvm hw hB hz hk hS => by obtain ⟨a, b, c⟩ := hB; rw [ht] at a; exact kk r9 u.1 u.2.1 u.2.2.1 u.2.2.2 H1 locs1 hw.1 hw.2 a c hk hS)
end XCB
def NX : String → State → State → Prop := vx_X (fun _ : Unit => False) (fun _ _ _ => True) (fun _ => False)
section XC2
variable {p : Program} {l : Launch} {e : Env} {R : Room} {s : State} {m : MethodId} {args : Array Value} {below : List Frame} {meth : Method} {c : Code} {H : Heap} {locs : List Loc} {cells slots : Nat} {Q : State → Prop}
variable {pc : Nat} {ls : Array Slot} {rest st0 : List Value} {a : Array Value} {D : va_G} {k : Nat → ClassId} {wc ws : va_W} {E : String} {A0 : Nat → Prop} {H0 : Heap}
/-- a callee's throw, to be caught here -/
theorem xt_c (hr : vx_Run p l e R s m args below meth c H locs cells slots 1 6 (F0 m pc ls st0) rest (NQ a) (XQ D k wc H.size E) (va_A wc H.size)) (hS : va_S A0 H0 H locs) (hF : ∀ q, va_A wc H.size q → A0 q)
    (kx : ∀ (ce : Cell) (q9 : Addr) (H1 : Heap) (locs1 : List Loc), va_P D vwCl wc H1 → va_D (va_A wc H.size) wc → (∀ q : Nat, q < H.size → ¬ va_A wc H.size q → H1[q]? = H[q]?) → va_S A0 H0 H1 locs1 → H1[q9]? = some ce → ce.vm = .none → s.vm.findClass E = some ce.cls → vx_W p l e R s m args below meth c H1 locs1 (cells + 1) (slots + 6) Q (F0 m pc ls rest) q9) : W p l e R s m args below meth c H locs cells slots Q (F0 m pc ls st0) := by
  intro T hT X
  rcases hr T hT X with ⟨v, st₀, t, T', L, h0, X', hL, e1, e2, hQ, st⟩ | ⟨q, st₀, t, T', L, E1, ce, h0, X', hL, e1, e2, ⟨u, hp, hB, hFr⟩, hce, hcv, hcl, st⟩
  · exact absurd hQ id
  · obtain ⟨k1, k2, k3⟩ := vx_keep h0 e1 hS (fun q _ h => hF q h) hF hL hFr
    obtain ⟨rfl, hP1, hK1, hD1⟩ := hB
    rw [← e1] at hP1
    obtain ⟨t2, a1, b1⟩ := kx ce q T'.heap (locs ++ L) hP1 hD1 k2 k3 (by rw [e1]; exact hce) hcv hcl T' rfl X'
    exact ⟨t2, st.trans a1, b1⟩
end XC2
abbrev rmL_types : Room := { frames := 3, cells := 0, slots := 0, locals := 69 }
set_option maxHeartbeats 4000000 in
set_option maxRecDepth 100000 in
theorem lw_types_ok (l : Launch) (D : va_G) (k : Nat → ClassId) {a0 : Nat} {wb : va_W} (fs : List Value) (hb0 : wb[0]? = some (a0, .inr (6, fs))) {v1 : Int64} {K : Int32 → OBk → Prop} (hM : CbI l D k yX6_type wsX6_type rmX6_type [.ref a0, .long v1] wb a0 K 0 0) (sz : Nat) : vx_Met l yL_types wsL_types rmL_types (va_Pc [.ref a0, .long v1] (PreZ D k wb sz)) (va_Qi (pB k a0 K) (fun u t => PostW D k (va_A wb sz) u.2 t) (va_A wb sz)) NX 0 0 (va_A wb sz) := by
  refine vx_ofWH (cc := cL_types) (maxL := 4) (ret := (some .int)) (hh := [(0, 5, 6, 16)]) (by decide) rfl ?_
  intro p e s m args below meth c s₁ B hml hv
  obtain ⟨hav, ⟨⟨hsz, hP, hK, hD0⟩, hXP⟩, hNW⟩ := hv
  have hx := B.exec
  have hb := B.bytes
  have hr := B.returns
  have hts := atoms_spec (ws := wsL_types) B.pre
  have hown : s.vm.findClass RL = some m.cls := findClass_of_methodNamed B.named
  have hlocks := B.notSynchronized
  subst hsz
  have hD := hD0.self (sz := s.heap.size)
  clear hD0
  obtain ⟨A, hAe⟩ : ∃ A, va_A wb s.heap.size = A := ⟨_, rfl⟩
  rw [hAe] at hD hXP
  have hA : ∀ q : Nat, s.heap.size ≤ q → A q := fun q h => by rw [← hAe]; exact Or.inr h
  have hS : va_S A s.heap s.heap [] := va_S.rf
  have hl := lv_entry ([.ref a0, .long v1]) (n := 4) (Nat.le_of_ble_eq_true rfl)
  rw [show entryFrame m args 4 = entryFrame m ([.ref a0, .long v1] : List Value).toArray 4 from by rw [hav], lg_entry_eq]
  generalize (lg_sl ([.ref a0, .long v1]) ++ List.replicate (4 - (lg_sl ([.ref a0, .long v1])).length) Slot.unset).toArray = ls at hl ⊢
  replace hl : lv_has ls 4 [(0, .ref a0), (1, .long v1)] := hl
  rw [hAe]
  show W p l e rmL_types s m args below meth c s.heap [] 0 0 _ (F0 m 0 ls [])
  refine lv_aload_n hx hb dL_types_0 rfl (lv_at hl 0 rfl) ?_
  refine lv_lload_n hx hb dL_types_1 rfl (lv_at hl 1 rfl) ?_
  have hFc := vs_free hD hS hA
  refine xc_iB (va_runV (As := [.long v1]) (rest := []) ⟨hx, hb, hml, hown, hts⟩ (hM s.heap.size) (cwV 1 hts gL_types_X6_type rfl rfl rfl (by decide +kernel) ⟨Nat.le_of_ble_eq_true rfl, Nat.le_of_ble_eq_true rfl⟩) ⟨pn_blind, va_recv hK hP (ci := 6) (q0 := 0) rfl hb0, pn_start hP hK hD hNW⟩ rfl rfl hl.1 rfl (lv_room (Nat.le_of_ble_eq_true rfl)) dL_types_2 ⟨Nat.zero_le _, Nat.zero_le _⟩) hS hFc (fun r o9 wb9 H1 locs hk hBk9 hP1 hD1 hk1 hS => ?_)
  obtain ⟨hP, hD⟩ := vj_all hFc hP1 hD1
  exact vx_ret (W.iret hx hb hr (fun t ht hW => ⟨⟨_, (o9, wb9), rfl, pB_i hk hBk9, by rw [ht]; exact hP, va_K.moved hW.alike hK, hD⟩, hS.F ht⟩) hS.2.2 dL_types_5)
theorem met_L_types (l : Launch) (hst : l.stackTraces = false) (D : va_G) (k : Nat → ClassId) {a0 : Nat} {o : OBk} {wb : va_W} (hBk : isBk k a0 o wb) {v1 : Int64} {K : Int32 → OBk → Prop} (h : cb_type v1 o K) (sz : Nat) : Met l yL_types wsL_types rmL_types (va_Pc [.ref a0, .long v1] (PreZ D k wb sz)) (va_Qi (pB k a0 K) (fun u t => PostW D k (va_A wb sz) u.2 t) (va_A wb sz)) 0 0 (va_A wb sz) := by
  obtain ⟨fs, hb0⟩ := isBk_head hBk
  refine MetFree.mono (lw_types_ok l D k fs hb0 (bk_type l D k hBk h) sz) (fun _ _ h => h) (fun _ _ _ _ _ h => h) ?_
  rintro a s o9 t - (h9 | ⟨q, ho, E', ce, L, ⟨u, hp9, -⟩, -⟩)
  · exact h9
  · exact absurd hp9 id
abbrev rmL_reads : Room := { frames := 8, cells := 1, slots := 6, locals := 162 }
set_option maxHeartbeats 4000000 in
set_option maxRecDepth 100000 in
theorem lw_reads_ok (l : Launch) (D : va_G) (k : Nat → ClassId) {a0 : Nat} {wb : va_W} (fs : List Value) (hb0 : wb[0]? = some (a0, .inr (6, fs))) {v1 : Int32} {v2 : Int32} {K : Int32 → OBk → Prop} (hM : CbI l D k yX6_read wsX6_read rmX6_read [.ref a0, .int v1, .int v2] wb a0 K 0 0) (sz : Nat) : vx_Met l yL_reads wsL_reads rmL_reads (va_Pc [.ref a0, .int v1, .int v2] (PreZ D k wb sz)) (va_Qi (pB k a0 K) (fun u t => PostW D k (va_A wb sz) u.2 t) (va_A wb sz)) NX 1 6 (va_A wb sz) := by
  refine vx_ofWH (cc := cL_reads) (maxL := 4) (ret := (some .int)) (hh := [(0, 6, 7, 16)]) (by decide) rfl ?_
  intro p e s m args below meth c s₁ B hml hv
  obtain ⟨hav, ⟨⟨hsz, hP, hK, hD0⟩, hXP⟩, hNW⟩ := hv
  have hx := B.exec
  have hb := B.bytes
  have hr := B.returns
  have hts := atoms_spec (ws := wsL_reads) B.pre
  have hown : s.vm.findClass RL = some m.cls := findClass_of_methodNamed B.named
  have hlocks := B.notSynchronized
  subst hsz
  have hD := hD0.self (sz := s.heap.size)
  clear hD0
  obtain ⟨A, hAe⟩ : ∃ A, va_A wb s.heap.size = A := ⟨_, rfl⟩
  rw [hAe] at hD hXP
  have hA : ∀ q : Nat, s.heap.size ≤ q → A q := fun q h => by rw [← hAe]; exact Or.inr h
  have hS : va_S A s.heap s.heap [] := va_S.rf
  have hl := lv_entry ([.ref a0, .int v1, .int v2]) (n := 4) (Nat.le_of_ble_eq_true rfl)
  rw [show entryFrame m args 4 = entryFrame m ([.ref a0, .int v1, .int v2] : List Value).toArray 4 from by rw [hav], lg_entry_eq]
  generalize (lg_sl ([.ref a0, .int v1, .int v2]) ++ List.replicate (4 - (lg_sl ([.ref a0, .int v1, .int v2])).length) Slot.unset).toArray = ls at hl ⊢
  replace hl : lv_has ls 4 [(0, .ref a0), (1, .int v1), (2, .int v2)] := hl
  rw [hAe]
  show W p l e rmL_reads s m args below meth c s.heap [] 0 0 _ (F0 m 0 ls [])
  refine lv_aload_n hx hb dL_reads_0 rfl (lv_at hl 0 rfl) ?_
  refine lv_iload_n hx hb dL_reads_1 rfl (lv_at hl 1 rfl) ?_
  refine lv_iload_n hx hb dL_reads_2 rfl (lv_at hl 2 rfl) ?_
  have hFc := vs_free hD hS hA
  refine xc_iB (va_runV (As := [.int v1, .int v2]) (rest := []) ⟨hx, hb, hml, hown, hts⟩ (hM s.heap.size) (cwV 2 hts gL_reads_X6_read rfl rfl rfl (by decide +kernel) ⟨Nat.le_of_ble_eq_true rfl, Nat.le_of_ble_eq_true rfl⟩) ⟨pn_blind, va_recv hK hP (ci := 6) (q0 := 0) rfl hb0, pn_start hP hK hD hNW⟩ rfl rfl hl.1 rfl (lv_room (Nat.le_of_ble_eq_true rfl)) dL_reads_3 ⟨Nat.zero_le _, Nat.zero_le _⟩) hS hFc (fun r o9 wb9 H1 locs hk hBk9 hP1 hD1 hk1 hS => ?_)
  obtain ⟨hP, hD⟩ := vj_all hFc hP1 hD1
  refine W.widen (k := 1) (n := 6) (Nat.le_of_ble_eq_true rfl) (Nat.le_of_ble_eq_true rfl) ?_
  exact vx_ret (W.iret hx hb hr (fun t ht hW => ⟨⟨_, (o9, wb9), rfl, pB_i hk hBk9, by rw [ht]; exact hP, va_K.moved hW.alike hK, hD⟩, hS.F ht⟩) hS.2.2 dL_reads_6)
set_option maxHeartbeats 4000000 in
set_option maxRecDepth 100000 in
theorem lw_reads_x (l : Launch) (D : va_G) (k : Nat → ClassId) {a0 : Nat} {wb : va_W} (fs : List Value) (hb0 : wb[0]? = some (a0, .inr (6, fs))) {v1 : Int32} {v2 : Int32} {K : Int32 → OBk → Prop} {o : OBk} (hBk : isBk k a0 o wb) (hk : K (-2) o) (hM : ∀ sz : Nat, vx_Met l yX6_read wsX6_read rmTX6_read (va_Pc [.ref a0, .int v1, .int v2] (PreX D k wb sz)) NQ (XQ D k wb sz exS) 1 6 (va_A wb sz)) (sz : Nat) : vx_Met l yL_reads wsL_reads rmL_reads (va_Pc [.ref a0, .int v1, .int v2] (PreZ D k wb sz)) (va_Qi (pB k a0 K) (fun u t => PostW D k (va_A wb sz) u.2 t) (va_A wb sz)) NX 1 6 (va_A wb sz) := by
  refine vx_ofWH (cc := cL_reads) (maxL := 4) (ret := (some .int)) (hh := [(0, 6, 7, 16)]) (by decide) rfl ?_
  intro p e s m args below meth c s₁ B hml hv
  obtain ⟨hav, ⟨⟨hsz, hP, hK, hD0⟩, hXP⟩, hNW⟩ := hv
  have hx := B.exec
  have hb := B.bytes
  have hr := B.returns
  have hts := atoms_spec (ws := wsL_reads) B.pre
  have hown : s.vm.findClass RL = some m.cls := findClass_of_methodNamed B.named
  have hlocks := B.notSynchronized
  subst hsz
  have hD := hD0.self (sz := s.heap.size)
  clear hD0
  obtain ⟨A, hAe⟩ : ∃ A, va_A wb s.heap.size = A := ⟨_, rfl⟩
  rw [hAe] at hD hXP
  have hA : ∀ q : Nat, s.heap.size ≤ q → A q := fun q h => by rw [← hAe]; exact Or.inr h
  have hS : va_S A s.heap s.heap [] := va_S.rf
  have hl := lv_entry ([.ref a0, .int v1, .int v2]) (n := 4) (Nat.le_of_ble_eq_true rfl)
  rw [show entryFrame m args 4 = entryFrame m ([.ref a0, .int v1, .int v2] : List Value).toArray 4 from by rw [hav], lg_entry_eq]
  generalize (lg_sl ([.ref a0, .int v1, .int v2]) ++ List.replicate (4 - (lg_sl ([.ref a0, .int v1, .int v2])).length) Slot.unset).toArray = ls at hl ⊢
  replace hl : lv_has ls 4 [(0, .ref a0), (1, .int v1), (2, .int v2)] := hl
  rw [hAe]
  show W p l e rmL_reads s m args below meth c s.heap [] 0 0 _ (F0 m 0 ls [])
  refine lv_aload_n hx hb dL_reads_0 rfl (lv_at hl 0 rfl) ?_
  refine lv_iload_n hx hb dL_reads_1 rfl (lv_at hl 1 rfl) ?_
  refine lv_iload_n hx hb dL_reads_2 rfl (lv_at hl 2 rfl) ?_
  have htab : c.exceptionTable.toList = [⟨0, 6, 7, 16⟩] := vx_table (x := yL_reads) B (hts (.codeWith yL_reads cL_reads 4 (some .int) [(0, 6, 7, 16)]) List.mem_cons_self)
  have hFc := vs_free hD hS hA
  refine xt_c (vx_runV (As := [.int v1, .int v2]) (rest := []) ⟨hx, hb, hml, hown, hts⟩ (hM s.heap.size) (cwV 2 hts gL_reads_X6_read rfl rfl rfl (by decide +kernel) ⟨Nat.le_of_ble_eq_true rfl, Nat.le_of_ble_eq_true rfl⟩) ⟨px_blind, va_recv hK hP (ci := 6) (q0 := 0) rfl hb0, px_start hP hK hD hXP hFc⟩ rfl rfl hl.1 rfl (lv_room (Nat.le_of_ble_eq_true rfl)) dL_reads_3 ⟨Nat.le_refl _, Nat.le_refl _⟩) hS hFc (fun ce q9 H1 locs hP1 hD1 hk1 hS hc1 hc2 hc3 => ?_)
  refine vx_catch (name := exS) (E := exS) hown [] ⟨0, 6, 7, 16⟩ [] htab (fun z hz => nomatch hz) rfl (by decide) (hts (.classLink RL 16 exS) (by decide +kernel)) (va_Nw.use rfl (hXP.2.2.2.1 exS (by decide +kernel))) hc1 hc2 hc3 ?_
  show W p l e rmL_reads s m args below meth c H1 locs 1 6 _ (F0 m 7 ls [.ref q9])
  refine lv_astore_n (lv' := [(3, .ref q9), (0, .ref a0), (1, .int v1), (2, .int v2)]) hx hb dL_reads_7 rfl hl (by decide) rfl (fun ls hl => ?_)
  refine lv_bipush (v := -2) hx hb dL_reads_8 (by decide) ?_
  have hD2 : va_D A wb := hD
  exact vx_ret (W.iret hx hb hr (fun t ht hW => ⟨⟨_, (o, wb), rfl, pB_i hk hBk, by rw [ht]; exact hP1, va_K.moved hW.alike hK, hD2⟩, hS.F ht⟩) (fun z hz => hS.2.2 z hz) dL_reads_10)
theorem met_L_reads (l : Launch) (hst : l.stackTraces = false) (D : va_G) (k : Nat → ClassId) {a0 : Nat} {o : OBk} {wb : va_W} (hBk : isBk k a0 o wb) {v1 : Int32} {v2 : Int32} {K : Int32 → OBk → Prop} (h : cb_read v1 v2 o K) (sz : Nat) : Met l yL_reads wsL_reads rmL_reads (va_Pc [.ref a0, .int v1, .int v2] (PreZ D k wb sz)) (va_Qi (pB k a0 K) (fun u t => PostW D k (va_A wb sz) u.2 t) (va_A wb sz)) 1 6 (va_A wb sz) := by
  obtain ⟨fs, hb0⟩ := isBk_head hBk
  obtain ⟨i, c, hi, rfl, hv, hc8, hC4, hx, hk⟩ := h
  have key : vx_Met l yL_reads wsL_reads rmL_reads (va_Pc [.ref a0, .int (nI i), .int v2] (PreZ D k wb sz)) (va_Qi (pB k a0 K) (fun u t => PostW D k (va_A wb sz) u.2 t) (va_A wb sz)) NX 1 6 (va_A wb sz) := by
    by_cases e : c = 8
    · subst e
      refine lw_reads_x l D k fs hb0 hBk (hx rfl) (fun sz => ?_) sz
      obtain ⟨ad, aF, G, Ls, lat, S, X, bs, bc, bv, bd, Vd, Vf, dr, rfl, rfl, hA⟩ := hBk
      have r2 : ¬ (v2 < (-999) ∨ ¬ v2 ≤ 999) := fun q => by
        unfold smallR at hv
        have z1 : (-999 : Int32).toInt = -999 := by decide
        have z2 : (999 : Int32).toInt = 999 := by decide
        rcases q with q | q
        · rw [lt_i] at q
          omega
        · rw [le_i] at q
          omega
      exact thr_up ((wL k (ad 2) Ls (nI (oln o)) lat) ++ ((wFc k (ad 3) S) ++ ((wB k (ad 4) bs bc bv bd) ++ ((wV k (ad 5) Vd Vf (nI (otn o))) ++ ((wC k (ad 6) (nI (ox o))) ++ (FW k aF X (List.range (oc o)))))))) (fun sz => thr_X6_read_2 l hst D k (ad 0) (ad 1) (ad 2 0) (ad 3 0) (ad 4 0) (ad 5 0) (ad 6 0) sz (fRow (oc o) aF) dr (nI (oc o)) (oI o 0) (oI o 1) (oI o 2) (oI o 3) (oI o 4) (G 0) (oI o 5) (oI o 6) (G 1) (nI i) v2 (ck_I hi) (ck_R r2) (vin6 hi) (by rw [clamp_n (by omega), hC4]; decide)) pmUI sz
    · exact lw_reads_ok l D k fs hb0 (bk_read l D k hBk ⟨i, c, hi, rfl, hv, by omega, hC4, hk (by omega)⟩) sz
  refine MetFree.mono key (fun _ _ h => h) (fun _ _ _ _ _ h => h) ?_
  rintro a s o9 t - (h9 | ⟨q, ho, E', ce, L, ⟨u, hp9, -⟩, -⟩)
  · exact h9
  · exact absurd hp9 id
abbrev rmL_tables : Room := { frames := 9, cells := 1, slots := 6, locals := 422 }
set_option maxHeartbeats 4000000 in
set_option maxRecDepth 100000 in
theorem lw_tables_ok (l : Launch) (D : va_G) (k : Nat → ClassId) {a0 : Nat} {wb : va_W} (fs : List Value) (hb0 : wb[0]? = some (a0, .inr (6, fs))) {v1 : Int32} {v2 : Int32} {K : Int32 → OBk → Prop} (hM : CbI l D k yX6_table wsX6_table rmX6_table [.ref a0, .int v1, .int v2] wb a0 K 0 0) (sz : Nat) : vx_Met l yL_tables wsL_tables rmL_tables (va_Pc [.ref a0, .int v1, .int v2] (PreZ D k wb sz)) (va_Qi (pB k a0 K) (fun u t => PostW D k (va_A wb sz) u.2 t) (va_A wb sz)) NX 1 6 (va_A wb sz) := by
  refine vx_ofWH (cc := cL_tables) (maxL := 4) (ret := (some .int)) (hh := [(0, 6, 7, 16)]) (by decide) rfl ?_
  intro p e s m args below meth c s₁ B hml hv
  obtain ⟨hav, ⟨⟨hsz, hP, hK, hD0⟩, hXP⟩, hNW⟩ := hv
  have hx := B.exec
  have hb := B.bytes
  have hr := B.returns
  have hts := atoms_spec (ws := wsL_tables) B.pre
  have hown : s.vm.findClass RL = some m.cls := findClass_of_methodNamed B.named
  have hlocks := B.notSynchronized
  subst hsz
  have hD := hD0.self (sz := s.heap.size)
  clear hD0
  obtain ⟨A, hAe⟩ : ∃ A, va_A wb s.heap.size = A := ⟨_, rfl⟩
  rw [hAe] at hD hXP
  have hA : ∀ q : Nat, s.heap.size ≤ q → A q := fun q h => by rw [← hAe]; exact Or.inr h
  have hS : va_S A s.heap s.heap [] := va_S.rf
  have hl := lv_entry ([.ref a0, .int v1, .int v2]) (n := 4) (Nat.le_of_ble_eq_true rfl)
  rw [show entryFrame m args 4 = entryFrame m ([.ref a0, .int v1, .int v2] : List Value).toArray 4 from by rw [hav], lg_entry_eq]
  generalize (lg_sl ([.ref a0, .int v1, .int v2]) ++ List.replicate (4 - (lg_sl ([.ref a0, .int v1, .int v2])).length) Slot.unset).toArray = ls at hl ⊢
  replace hl : lv_has ls 4 [(0, .ref a0), (1, .int v1), (2, .int v2)] := hl
  rw [hAe]
  show W p l e rmL_tables s m args below meth c s.heap [] 0 0 _ (F0 m 0 ls [])
  refine lv_aload_n hx hb dL_tables_0 rfl (lv_at hl 0 rfl) ?_
  refine lv_iload_n hx hb dL_tables_1 rfl (lv_at hl 1 rfl) ?_
  refine lv_iload_n hx hb dL_tables_2 rfl (lv_at hl 2 rfl) ?_
  have hFc := vs_free hD hS hA
  refine xc_iB (va_runV (As := [.int v1, .int v2]) (rest := []) ⟨hx, hb, hml, hown, hts⟩ (hM s.heap.size) (cwV 2 hts gL_tables_X6_table rfl rfl rfl (by decide +kernel) ⟨Nat.le_of_ble_eq_true rfl, Nat.le_of_ble_eq_true rfl⟩) ⟨pn_blind, va_recv hK hP (ci := 6) (q0 := 0) rfl hb0, pn_start hP hK hD hNW⟩ rfl rfl hl.1 rfl (lv_room (Nat.le_of_ble_eq_true rfl)) dL_tables_3 ⟨Nat.zero_le _, Nat.zero_le _⟩) hS hFc (fun r o9 wb9 H1 locs hk hBk9 hP1 hD1 hk1 hS => ?_)
  obtain ⟨hP, hD⟩ := vj_all hFc hP1 hD1
  refine W.widen (k := 1) (n := 6) (Nat.le_of_ble_eq_true rfl) (Nat.le_of_ble_eq_true rfl) ?_
  exact vx_ret (W.iret hx hb hr (fun t ht hW => ⟨⟨_, (o9, wb9), rfl, pB_i hk hBk9, by rw [ht]; exact hP, va_K.moved hW.alike hK, hD⟩, hS.F ht⟩) hS.2.2 dL_tables_6)
set_option maxHeartbeats 4000000 in
set_option maxRecDepth 100000 in
theorem lw_tables_x (l : Launch) (D : va_G) (k : Nat → ClassId) {a0 : Nat} {wb : va_W} (fs : List Value) (hb0 : wb[0]? = some (a0, .inr (6, fs))) {v1 : Int32} {v2 : Int32} {K : Int32 → OBk → Prop} {o : OBk} (hBk : isBk k a0 o wb) (hk : K (-2) o) (hM : ∀ sz : Nat, vx_Met l yX6_table wsX6_table rmTX6_table (va_Pc [.ref a0, .int v1, .int v2] (PreX D k wb sz)) NQ (XQ D k wb sz exS) 1 6 (va_A wb sz)) (sz : Nat) : vx_Met l yL_tables wsL_tables rmL_tables (va_Pc [.ref a0, .int v1, .int v2] (PreZ D k wb sz)) (va_Qi (pB k a0 K) (fun u t => PostW D k (va_A wb sz) u.2 t) (va_A wb sz)) NX 1 6 (va_A wb sz) := by
  refine vx_ofWH (cc := cL_tables) (maxL := 4) (ret := (some .int)) (hh := [(0, 6, 7, 16)]) (by decide) rfl ?_
  intro p e s m args below meth c s₁ B hml hv
  obtain ⟨hav, ⟨⟨hsz, hP, hK, hD0⟩, hXP⟩, hNW⟩ := hv
  have hx := B.exec
  have hb := B.bytes
  have hr := B.returns
  have hts := atoms_spec (ws := wsL_tables) B.pre
  have hown : s.vm.findClass RL = some m.cls := findClass_of_methodNamed B.named
  have hlocks := B.notSynchronized
  subst hsz
  have hD := hD0.self (sz := s.heap.size)
  clear hD0
  obtain ⟨A, hAe⟩ : ∃ A, va_A wb s.heap.size = A := ⟨_, rfl⟩
  rw [hAe] at hD hXP
  have hA : ∀ q : Nat, s.heap.size ≤ q → A q := fun q h => by rw [← hAe]; exact Or.inr h
  have hS : va_S A s.heap s.heap [] := va_S.rf
  have hl := lv_entry ([.ref a0, .int v1, .int v2]) (n := 4) (Nat.le_of_ble_eq_true rfl)
  rw [show entryFrame m args 4 = entryFrame m ([.ref a0, .int v1, .int v2] : List Value).toArray 4 from by rw [hav], lg_entry_eq]
  generalize (lg_sl ([.ref a0, .int v1, .int v2]) ++ List.replicate (4 - (lg_sl ([.ref a0, .int v1, .int v2])).length) Slot.unset).toArray = ls at hl ⊢
  replace hl : lv_has ls 4 [(0, .ref a0), (1, .int v1), (2, .int v2)] := hl
  rw [hAe]
  show W p l e rmL_tables s m args below meth c s.heap [] 0 0 _ (F0 m 0 ls [])
  refine lv_aload_n hx hb dL_tables_0 rfl (lv_at hl 0 rfl) ?_
  refine lv_iload_n hx hb dL_tables_1 rfl (lv_at hl 1 rfl) ?_
  refine lv_iload_n hx hb dL_tables_2 rfl (lv_at hl 2 rfl) ?_
  have htab : c.exceptionTable.toList = [⟨0, 6, 7, 16⟩] := vx_table (x := yL_tables) B (hts (.codeWith yL_tables cL_tables 4 (some .int) [(0, 6, 7, 16)]) List.mem_cons_self)
  have hFc := vs_free hD hS hA
  refine xt_c (vx_runV (As := [.int v1, .int v2]) (rest := []) ⟨hx, hb, hml, hown, hts⟩ (hM s.heap.size) (cwV 2 hts gL_tables_X6_table rfl rfl rfl (by decide +kernel) ⟨Nat.le_of_ble_eq_true rfl, Nat.le_of_ble_eq_true rfl⟩) ⟨px_blind, va_recv hK hP (ci := 6) (q0 := 0) rfl hb0, px_start hP hK hD hXP hFc⟩ rfl rfl hl.1 rfl (lv_room (Nat.le_of_ble_eq_true rfl)) dL_tables_3 ⟨Nat.le_refl _, Nat.le_refl _⟩) hS hFc (fun ce q9 H1 locs hP1 hD1 hk1 hS hc1 hc2 hc3 => ?_)
  refine vx_catch (name := exS) (E := exS) hown [] ⟨0, 6, 7, 16⟩ [] htab (fun z hz => nomatch hz) rfl (by decide) (hts (.classLink RL 16 exS) (by decide +kernel)) (va_Nw.use rfl (hXP.2.2.2.1 exS (by decide +kernel))) hc1 hc2 hc3 ?_
  show W p l e rmL_tables s m args below meth c H1 locs 1 6 _ (F0 m 7 ls [.ref q9])
  refine lv_astore_n (lv' := [(3, .ref q9), (0, .ref a0), (1, .int v1), (2, .int v2)]) hx hb dL_tables_7 rfl hl (by decide) rfl (fun ls hl => ?_)
  refine lv_bipush (v := -2) hx hb dL_tables_8 (by decide) ?_
  have hD2 : va_D A wb := hD
  exact vx_ret (W.iret hx hb hr (fun t ht hW => ⟨⟨_, (o, wb), rfl, pB_i hk hBk, by rw [ht]; exact hP1, va_K.moved hW.alike hK, hD2⟩, hS.F ht⟩) (fun z hz => hS.2.2 z hz) dL_tables_10)
theorem met_L_tables (l : Launch) (hst : l.stackTraces = false) (D : va_G) (k : Nat → ClassId) {a0 : Nat} {o : OBk} {wb : va_W} (hBk : isBk k a0 o wb) {v1 : Int32} {v2 : Int32} {K : Int32 → OBk → Prop} (h : cb_table v1 v2 o K) (sz : Nat) : Met l yL_tables wsL_tables rmL_tables (va_Pc [.ref a0, .int v1, .int v2] (PreZ D k wb sz)) (va_Qi (pB k a0 K) (fun u t => PostW D k (va_A wb sz) u.2 t) (va_A wb sz)) 1 6 (va_A wb sz) := by
  obtain ⟨fs, hb0⟩ := isBk_head hBk
  have key : vx_Met l yL_tables wsL_tables rmL_tables (va_Pc [.ref a0, .int v1, .int v2] (PreZ D k wb sz)) (va_Qi (pB k a0 K) (fun u t => PostW D k (va_A wb sz) u.2 t) (va_A wb sz)) NX 1 6 (va_A wb sz) := by
    rcases bk_table l D k hBk h with hM | ⟨hk, ad, aF, Vd, Vf, dr, rest, rfl, hp, c1, c2, c3, c4⟩
    · exact lw_tables_ok l D k fs hb0 hM sz
    · exact lw_tables_x l D k fs hb0 hBk hk (fun sz => thr_up rest (fun sz => thr_X6_table_2 l hst D k (ad 0) (ad 5) (ad 1 0) (ad 2 0) (ad 3 0) (ad 4 0) (ad 6 0) sz (fRow (oc o) aF) dr (nI (oc o)) Vd Vf (nI (otn o)) v1 v2 0 c1 c2 c3 c4 rfl) hp sz) sz
  refine MetFree.mono key (fun _ _ h => h) (fun _ _ _ _ _ h => h) ?_
  rintro a s o9 t - (h9 | ⟨q, ho, E', ce, L, ⟨u, hp9, -⟩, -⟩)
  · exact h9
  · exact absurd hp9 id
