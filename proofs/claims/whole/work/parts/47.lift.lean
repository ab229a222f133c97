/-! ===== a contract over a larger world; what book and reference do at a call ===== -/
theorem va_A_mono {w0 W0 : va_W} {sz : Nat} (h : ∀ x ∈ w0, x ∈ W0) : ∀ q, va_A w0 sz q → va_A W0 sz q := fun q hq => by
  rcases hq with ⟨k, e, hk⟩ | hq
  · obtain ⟨j, hj⟩ := List.mem_iff_getElem?.mp (h _ (List.mem_of_getElem? hk))
    exact Or.inl ⟨j, e, hj⟩
  · exact Or.inr hq
theorem up_A {w0 rest W0 : va_W} {sz : Nat} (hp : (w0 ++ rest).Perm W0) : ∀ q, va_A w0 sz q → va_A W0 sz q := va_A_mono (fun x hx => hp.mem_iff.mp (List.mem_append_left _ hx))
theorem up_post {D : va_G} {k : Nat → ClassId} {w0 rest W0 w1 W1 : va_W} {sz : Nat} {st t : State} (hp : (w0 ++ rest).Perm W0) (hP : va_P D vwCl W0 st.heap) (hD : va_D (fun _ => True) W0) (hsz : st.heap.size = sz) (hF : va_F (va_A w0 sz) st t) (h1 : PostW D k (va_A w0 sz) w1 t) (hq : (w1 ++ rest).Perm W1) : PostW D k (va_A W0 sz) W1 t := by
  subst hsz
  have hP2 := vs_perm hP hp
  have hD2 : va_D (va_A W0 st.heap.size) (w0 ++ rest) := vd_perm hD.self hp
  obtain ⟨a, b⟩ := vs_joinL hP2 hD2 (up_A hp) hF.2 h1.1 h1.2.2
  exact ⟨vs_perm a hq.symm, h1.2.1, vd_perm b hq.symm⟩
theorem up_F {w0 rest W0 : va_W} {sz : Nat} {st t : State} (hp : (w0 ++ rest).Perm W0) (hF : va_F (va_A w0 sz) st t) : va_F (va_A W0 sz) st t := ⟨hF.1, fun q h1 h2 => hF.2 q h1 (fun h => h2 (up_A hp q h))⟩
theorem up_N {D : va_G} {k : Nat → ClassId} {w0 rest W0 : va_W} {sz : Nat} {av : List Value} (hp : (w0 ++ rest).Perm W0) {a : Array Value} {s : State} (h : va_Pc av (PreN D k W0 sz) a s) : va_Pc av (PreN D k w0 sz) a s := by
  obtain ⟨e, ⟨h1, h2, h3, h4⟩, hN⟩ := h
  exact ⟨e, ⟨h1, vs_l (vs_perm h2 hp), h3, vd_l (vd_perm h4 hp)⟩, hN⟩
theorem met_upI {l : Launch} {y : MethodName} {ws : List Cond} {rm : Room} {av : List Value} {D : va_G} {k : Nat → ClassId} {w0 W0 : va_W} {w1 W1 : (Nat → Nat) → va_W} {r : Int32} {mc ms : Nat} (rest : va_W) (hM : ∀ sz, Met l y ws rm (va_Pc av (PreN D k w0 sz)) (va_Qi (fun r9 (_ : Nat → Nat) => r9 = r) (fun u t => PostW D k (va_A w0 sz) (w1 u) t) (va_A w0 sz)) mc ms (va_A w0 sz)) (hp : (w0 ++ rest).Perm W0) (hq : ∀ u, (w1 u ++ rest).Perm (W1 u)) (sz : Nat) : Met l y ws rm (va_Pc av (PreN D k W0 sz)) (va_Qi (fun r9 (_ : Nat → Nat) => r9 = r) (fun u t => PostW D k (va_A W0 sz) (W1 u) t) (va_A W0 sz)) mc ms (va_A W0 sz) := by
  refine MetFree.mono (hM sz) (fun a s h => up_N hp h) (fun _ _ _ _ _ h => h) ?_
  rintro a s o t ⟨e, ⟨h1, h2, h3, h4⟩, hN⟩ ⟨⟨⟨r9, u, ho, hr, hB⟩, hF⟩, L, hL, hfree⟩
  exact ⟨⟨⟨r9, u, ho, hr, up_post hp h2 h4 h1 hF hB (hq u)⟩, up_F hp hF⟩, L, hL, fun q hq => up_A hp _ (hfree q hq)⟩
theorem met_upL {l : Launch} {y : MethodName} {ws : List Cond} {rm : Room} {av : List Value} {D : va_G} {k : Nat → ClassId} {w0 W0 : va_W} {w1 W1 : (Nat → Nat) → va_W} {r : Int64} {mc ms : Nat} (rest : va_W) (hM : ∀ sz, Met l y ws rm (va_Pc av (PreN D k w0 sz)) (va_Ql (fun r9 (_ : Nat → Nat) => r9 = r) (fun u t => PostW D k (va_A w0 sz) (w1 u) t) (va_A w0 sz)) mc ms (va_A w0 sz)) (hp : (w0 ++ rest).Perm W0) (hq : ∀ u, (w1 u ++ rest).Perm (W1 u)) (sz : Nat) : Met l y ws rm (va_Pc av (PreN D k W0 sz)) (va_Ql (fun r9 (_ : Nat → Nat) => r9 = r) (fun u t => PostW D k (va_A W0 sz) (W1 u) t) (va_A W0 sz)) mc ms (va_A W0 sz) := by
  refine MetFree.mono (hM sz) (fun a s h => up_N hp h) (fun _ _ _ _ _ h => h) ?_
  rintro a s o t ⟨e, ⟨h1, h2, h3, h4⟩, hN⟩ ⟨⟨⟨r9, u, ho, hr, hB⟩, hF⟩, L, hL, hfree⟩
  exact ⟨⟨⟨r9, u, ho, hr, up_post hp h2 h4 h1 hF hB (hq u)⟩, up_F hp hF⟩, L, hL, fun q hq => up_A hp _ (hfree q hq)⟩
theorem met_gI {l : Launch} {y : MethodName} {ws : List Cond} {rm : Room} {av : List Value} {D : va_G} {k : Nat → ClassId} {w0 w1 : va_W} {r : Int32} {mc ms : Nat} (hM : ∀ sz, Met l y ws rm (va_Pc av (PreW D k w0 sz)) (va_Qi (fun r9 (_ : Unit) => r9 = r) (fun _ t => PostW D k (va_A w0 sz) w1 t) (va_A w0 sz)) mc ms (va_A w0 sz)) (sz : Nat) : Met l y ws rm (va_Pc av (PreN D k w0 sz)) (va_Qi (fun r9 (_ : Nat → Nat) => r9 = r) (fun _ t => PostW D k (va_A w0 sz) w1 t) (va_A w0 sz)) mc ms (va_A w0 sz) := by
  refine MetFree.mono (hM sz) (fun a s h => ⟨h.1, h.2.1⟩) (fun _ _ _ _ _ h => h) ?_
  rintro a s o t - ⟨⟨⟨r9, u, ho, hr, hB⟩, hF⟩, hL⟩
  exact ⟨⟨⟨r9, fun _ => 0, ho, hr, hB⟩, hF⟩, hL⟩
theorem met_gL {l : Launch} {y : MethodName} {ws : List Cond} {rm : Room} {av : List Value} {D : va_G} {k : Nat → ClassId} {w0 w1 : va_W} {r : Int64} {mc ms : Nat} (hM : ∀ sz, Met l y ws rm (va_Pc av (PreW D k w0 sz)) (va_Ql (fun r9 (_ : Unit) => r9 = r) (fun _ t => PostW D k (va_A w0 sz) w1 t) (va_A w0 sz)) mc ms (va_A w0 sz)) (sz : Nat) : Met l y ws rm (va_Pc av (PreN D k w0 sz)) (va_Ql (fun r9 (_ : Nat → Nat) => r9 = r) (fun _ t => PostW D k (va_A w0 sz) w1 t) (va_A w0 sz)) mc ms (va_A w0 sz) := by
  refine MetFree.mono (hM sz) (fun a s h => ⟨h.1, h.2.1⟩) (fun _ _ _ _ _ h => h) ?_
  rintro a s o t - ⟨⟨⟨r9, u, ho, hr, hB⟩, hF⟩, hL⟩
  exact ⟨⟨⟨r9, fun _ => 0, ho, hr, hB⟩, hF⟩, hL⟩
theorem thr_up {l : Launch} {y : MethodName} {ws : List Cond} {rm : Room} {av : List Value} {D : va_G} {k : Nat → ClassId} {w0 W0 : va_W} {E : String} {mc ms : Nat} (rest : va_W) (hM : ∀ sz, vx_Met l y ws rm (va_Pc av (PreX D k w0 sz)) NQ (XQ D k w0 sz E) mc ms (va_A w0 sz)) (hp : (w0 ++ rest).Perm W0) (sz : Nat) : vx_Met l y ws rm (va_Pc av (PreX D k W0 sz)) NQ (XQ D k W0 sz E) mc ms (va_A W0 sz) := by
  refine MetFree.mono (hM sz) ?_ (fun _ _ _ _ _ h => h) ?_
  · rintro a s ⟨e, ⟨h1, h2, h3, h4⟩, x1, x2, x3⟩
    exact ⟨e, ⟨h1, vs_l (vs_perm h2 hp), h3, vd_l (vd_perm h4 hp)⟩, x1.narrow (up_A hp), x2.narrow (up_A hp), x3⟩
  · rintro a s o t ⟨e, ⟨h1, h2, h3, h4⟩, hX⟩ (⟨hn, -⟩ | ⟨q, ho, E', ce, L, ⟨u, hp9, ⟨hE, hB⟩, hF⟩, g1, g2, g3, g4, g5, g6⟩)
    · exact absurd hn id
    · exact Or.inr ⟨q, ho, E', ce, L, ⟨u, hp9, ⟨hE, up_post hp h2 h4 h1 hF hB hp⟩, up_F hp hF⟩, g1, g2, g3, g4, g5, fun z hz => up_A hp _ (g6 z hz)⟩
/-- all that a call of the law asks of the world -/
def PreZ (D : va_G) (k : Nat → ClassId) (ws : va_W) (sz : Nat) : State → Prop := fun U => PreY D k ws sz U ∧ NW U
theorem pz_blind {av : List Value} {D : va_G} {k : Nat → ClassId} {ws : va_W} {sz : Nat} : FrameBlind (va_Pc av (PreZ D k ws sz)) := fun a U g mk q => by
  obtain ⟨q0, q1, q2⟩ := q
  obtain ⟨r0, r1⟩ := py_blind (av := av) (D := D) (k := k) (ws := ws) (sz := sz) a U g mk ⟨q0, q1⟩
  exact ⟨r0, r1, NW.same (u := U) (U := U.calling g mk a) rfl q2⟩
theorem pz_start {av : List Value} {D : va_G} {k : Nat → ClassId} {ws : va_W} {H : Heap} {s : State} {A A1 : Nat → Prop} (hP : va_P D vwCl ws H) (hK : va_K D vwCl (tyL k) s) (hD : va_D A ws) (hX : XP A1 s H) (hN : XN s) (hNW : NW s) (hF : ∀ q, va_A ws H.size q → A1 q) : ∀ U : State, U.heap = H → s.WarmedH U.vm → va_Pc av (PreZ D k ws H.size) av.toArray U := fun U hU hW => by
  obtain ⟨a, b⟩ := py_start (av := av) hP hK hD hX hN hF U hU hW
  exact ⟨a, b, hNW.warm hW⟩
/-- the law's call of the book: answers kk (0, and out holds r; or the place of what was thrown), and the book's cells are wb' -/
def BookDoes (l : Launch) (D : va_G) (k : Nat → ClassId) (y : MethodName) (ws : List Cond) (av : Nat → List Value) (wb : va_W) (kk : Int32) (r : Int64) (wb' : (Nat → Nat) → va_W) : Prop :=
  ∃ (rm : Room) (mc ms : Nat), (rm.cells = mc ∧ rm.slots = ms ∧ mc ≤ 8 ∧ ms ≤ 429 ∧ rm.frames ≤ 100 ∧ rm.locals ≤ 4000) ∧ ∀ (qo : Nat) (f : Nat → Int64) (sz : Nat), Met l y ws rm (va_Pc (av qo) (PreZ D k (wo k qo f ++ wb) sz)) (va_Qi (fun r9 (_ : Nat → Nat) => r9 = kk) (fun u t => PostW D k (va_A (wo k qo f ++ wb) sz) (wo k qo (if kk = 0 then vp_updL f 0 r else f) ++ wb' u) t) (va_A (wo k qo f ++ wb) sz)) mc ms (va_A (wo k qo f ++ wb) sz)
theorem bd_ok {l : Launch} {D : va_G} {k : Nat → ClassId} {y : MethodName} {ws : List Cond} {av : Nat → List Value} {wb : va_W} {r : Int64} {wb' : (Nat → Nat) → va_W} {rm : Room} (mc ms : Nat) (hrm : rm.cells = mc ∧ rm.slots = ms ∧ mc ≤ 8 ∧ ms ≤ 429 ∧ rm.frames ≤ 100 ∧ rm.locals ≤ 4000) (h : ∀ (qo : Nat) (f : Nat → Int64) (sz : Nat), vx_Met l y ws rm (va_Pc (av qo) (PreN D k (wo k qo f ++ wb) sz)) (va_Qi (fun r9 (_ : Nat → Nat) => r9 = 0) (fun u t => PostW D k (va_A (wo k qo f ++ wb) sz) (wo k qo (vp_updL f 0 r) ++ wb' u) t) (va_A (wo k qo f ++ wb) sz)) NX mc ms (va_A (wo k qo f ++ wb) sz)) : BookDoes l D k y ws av wb 0 r wb' := by
  refine ⟨rm, mc, ms, hrm, fun qo f sz => MetFree.mono (h qo f sz) ?_ (fun _ _ _ _ _ h => h) ?_⟩
  · rintro a s ⟨e, ⟨⟨h1, h2⟩, h3⟩, h4⟩
    exact ⟨e, h1, h4⟩
  · rintro a s o t - (h9 | ⟨q, ho, E', ce, L, ⟨u, hp9, -⟩, -⟩)
    · exact h9
    · exact absurd hp9 id
theorem bd_x {l : Launch} {D : va_G} {k : Nat → ClassId} {y : MethodName} {ws : List Cond} {av : Nat → List Value} {wb : va_W} {kk : Int32} (hkk : ¬ kk = 0) {rm : Room} (hrm : rm.cells = 1 ∧ rm.slots = 6 ∧ rm.frames ≤ 100 ∧ rm.locals ≤ 4000) (h : ∀ (qo sz : Nat), vx_Met l y ws rm (va_Pc (av qo) (PreY D k wb sz)) (va_Qi (fun r9 (_ : Unit) => r9 = kk) (fun _ t => PostW D k (va_A wb sz) wb t) (va_A wb sz)) NX 1 6 (va_A wb sz)) (r : Int64) : BookDoes l D k y ws av wb kk r (fun _ => wb) := by
  refine ⟨rm, 1, 6, ⟨hrm.1, hrm.2.1, by decide, by decide, hrm.2.2⟩, fun qo f sz => ?_⟩
  have hp : (wb ++ wo k qo f).Perm (wo k qo f ++ wb) := List.perm_append_comm
  rw [if_neg hkk]
  refine MetFree.mono (h qo sz) ?_ (fun _ _ _ _ _ h => h) ?_
  · rintro a s ⟨e, ⟨⟨⟨h1, h2, h3, h4⟩, x1, x2, x3⟩, hN⟩, -⟩
    exact ⟨e, ⟨⟨h1, vs_l (vs_perm h2 hp), h3, vd_l (vd_perm h4 hp)⟩, x1.narrow (up_A hp), x2.narrow (up_A hp), x3⟩, hN⟩
  · rintro a s o t ⟨e, ⟨⟨⟨h1, h2, h3, h4⟩, hX⟩, hN⟩, -⟩ (⟨⟨⟨r9, u, ho, hr, hB⟩, hF⟩, L, hL, hfree⟩ | ⟨q, ho, E', ce, L, ⟨u, hp9, -⟩, -⟩)
    · exact ⟨⟨⟨r9, fun _ => 0, ho, hr, up_post hp h2 h4 h1 hF hB hp⟩, up_F hp hF⟩, L, hL, fun q hq => up_A hp _ (hfree q hq)⟩
    · exact absurd hp9 id
def ModelI (l : Launch) (D : va_G) (k : Nat → ClassId) (y : MethodName) (ws : List Cond) (av : List Value) (wm : va_W) (b : Int32) (wm' : va_W) : Prop :=
  ∃ rm : Room, (rm.cells = 0 ∧ rm.slots = 0 ∧ rm.frames ≤ 100 ∧ rm.locals ≤ 4000) ∧ ∀ sz : Nat, Met l y ws rm (va_Pc av (PreW D k wm sz)) (va_Qi (fun r9 (_ : Unit) => r9 = b) (fun _ t => PostW D k (va_A wm sz) wm' t) (va_A wm sz)) 0 0 (va_A wm sz)
def ModelL (l : Launch) (D : va_G) (k : Nat → ClassId) (y : MethodName) (ws : List Cond) (av : List Value) (wm : va_W) (b : Int64) (wm' : va_W) : Prop :=
  ∃ rm : Room, (rm.cells = 0 ∧ rm.slots = 0 ∧ rm.frames ≤ 100 ∧ rm.locals ≤ 4000) ∧ ∀ sz : Nat, Met l y ws rm (va_Pc av (PreW D k wm sz)) (va_Ql (fun r9 (_ : Unit) => r9 = b) (fun _ t => PostW D k (va_A wm sz) wm' t) (va_A wm sz)) 0 0 (va_A wm sz)
/-! ===== the two worlds, and what ties them ===== -/
abbrev wIc (k : Nat → ClassId) (a : Nat → Nat) (Y : TT) (G : Nat → Nat → Nat → Int32) : va_W := wI k a (Y 0) (Y 1) (Y 2) (Y 3) (Y 4) (G 0) (Y 5) (Y 6) (G 1)
/-- the book: 0 itself, 1 inputs, 2 line, 3 spare, 4 budget, 5 coverage, 6 chance; the formulas -/
def BW (k : Nat → ClassId) (ad aF : Nat → Nat → Nat) (c : Nat) (Y : TT) (G : Nat → Nat → Nat → Int32) (Ls : Nat → Int32) (len lat : Int32) (S : FC) (X : Nat → FC) (bs bc : Nat → Int64) (bv bd : Int64) (Vd Vf : Nat → Int32) (Vc x : Int32) (dr : Nat → Int32) : va_W :=
  wU k (ad 0) (ad 1 0) (ad 2 0) (ad 3 0) (ad 4 0) (ad 5 0) (ad 6 0) (fRow c aF) dr (nI c) ++ (wIc k (ad 1) Y G ++ (wL k (ad 2) Ls len lat ++ (wFc k (ad 3) S ++ (wB k (ad 4) bs bc bv bd ++ (wV k (ad 5) Vd Vf Vc ++ (wC k (ad 6) x ++ FW k aF X (List.range c)))))))
abbrev MW (k : Nat → ClassId) (a : Nat → Nat) (mi : TT) (ml : Nat → Nat → Int64) (mz : Nat → Int32) : va_W := wM k a (mi 0) (mi 1) (mi 2) (mi 3) (mi 4) (mi 5) (mi 6) (mi 7) (mi 8) (mi 9) (mi 10) (mi 11) (mi 12) (mi 13) (mi 14) (mi 15) (mi 16) (mi 17) (mi 18) (mi 19) (mi 20) (mi 21) (mi 22) (ml 0) (ml 1) (mi 23) (mi 24) (ml 2) (mi 25) (mi 26) (mz 0) (mz 1) (mz 2) (mz 3) (mz 4) (mz 5) (mz 6)
/-- a row set anew among rows -/
def st {α : Type} (t : Nat → α) (n : Nat) (v : α) : Nat → α := fun m => if m = n then v else t m
theorem st_at {α : Type} (t : Nat → α) (n : Nat) (v : α) : st t n v n = v := if_pos rfl
theorem st_ne {α : Type} (t : Nat → α) {n m : Nat} (v : α) (h : ¬ m = n) : st t n v m = t m := if_neg h
def FR (i : Nat) (Z : FC) (mi : TT) : Prop := FRel i (Z.1 0) (Z.1 1) (Z.1 2) (Z.1 3) Z.2.2.1 Z.2.2.2 (mi 9) (mi 10) (mi 11) (mi 12) (mi 13) (mi 14) (mi 15) (mi 16) (mi 17)
def IRel (Y : TT) (G : Nat → Nat → Nat → Int32) (mi : TT) : Prop := ARel (Y 0) (Y 1) (Y 2) (Y 4) (mi 0) (mi 6) (mi 2) (mi 4) ∧ SRel (Y 2) (Y 3) (Y 4) (mi 3) (mi 5) (G 0) ∧ URel (Y 5) (Y 6) (mi 1) ∧ CRel (G 1) (mi 7)
def REL (c : Nat) (Y : TT) (G : Nat → Nat → Nat → Int32) (Ls : Nat → Int32) (len : Int32) (X : Nat → FC) (Vd Vf : Nat → Int32) (Vc x : Int32) (mi : TT) (mz : Nat → Int32) : Prop :=
  IRel Y G mi ∧ (∃ n, n ≤ 60 ∧ len = nI n ∧ mz 1 = nI n ∧ LineRel n Ls (mi 8)) ∧ (c ≤ 8 ∧ mz 2 = nI c) ∧ (∀ i, i < c → FR i (X i) mi) ∧ (∃ n, Vc = nI n ∧ mz 5 = nI n ∧ TabRel n Vd Vf (mi 25) (mi 26)) ∧ ∃ x0, x0 ≤ 65536 ∧ x = nI x0 ∧ mz 6 = nI x0
/-- what holds between two calls: the book at a0, the reference at m0, whose last call left th -/
def INV (k : Nat → ClassId) (a0 m0 : Nat) (th : Int32) (wb wm : va_W) : Prop :=
  ∃ (ad aF : Nat → Nat → Nat) (c : Nat) (Y : TT) (G : Nat → Nat → Nat → Int32) (Ls : Nat → Int32) (len lat : Int32) (S : FC) (X : Nat → FC) (bs bc : Nat → Int64) (bv bd : Int64) (Vd Vf : Nat → Int32) (Vc x : Int32) (dr : Nat → Int32) (aM : Nat → Nat) (mi : TT) (ml : Nat → Nat → Int64) (mz : Nat → Int32),
    ad 0 0 = a0 ∧ aM 0 = m0 ∧ mz 0 = th ∧ wb = BW k ad aF c Y G Ls len lat S X bs bc bv bd Vd Vf Vc x dr ∧ wm = MW k aM mi ml mz ∧ REL c Y G Ls len X Vd Vf Vc x mi mz
def StepI (l : Launch) (D : va_G) (k : Nat → ClassId) (yL : MethodName) (wsL : List Cond) (avL : Nat → Nat → List Value) (yM : MethodName) (wsM : List Cond) (avM : Nat → List Value) : Prop :=
  ∀ (a0 m0 : Nat) (th : Int32) (wb wm : va_W), INV k a0 m0 th wb wm → ∃ (kk b : Int32) (r : Int64) (wb' : (Nat → Nat) → va_W) (wm' : va_W), (∀ u, INV k a0 m0 kk (wb' u) wm') ∧ BookDoes l D k yL wsL (avL a0) wb kk r wb' ∧ ModelI l D k yM wsM (avM m0) wm b wm' ∧ (kk = 0 → r = b.toInt64)
def StepL (l : Launch) (D : va_G) (k : Nat → ClassId) (yL : MethodName) (wsL : List Cond) (avL : Nat → Nat → List Value) (yM : MethodName) (wsM : List Cond) (avM : Nat → List Value) : Prop :=
  ∀ (a0 m0 : Nat) (th : Int32) (wb wm : va_W), INV k a0 m0 th wb wm → ∃ (kk : Int32) (b r : Int64) (wb' : (Nat → Nat) → va_W) (wm' : va_W), (∀ u, INV k a0 m0 kk (wb' u) wm') ∧ BookDoes l D k yL wsL (avL a0) wb kk r wb' ∧ ModelL l D k yM wsM (avM m0) wm b wm' ∧ (kk = 0 → r = b)
