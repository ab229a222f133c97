theorem va_A_mono {w0 W0 : va_W} {sz : Nat} (h : ∀ x ∈ w0, x ∈ W0) : ∀ q, va_A w0 sz q → va_A W0 sz q := fun q hq => by
  rcases hq with ⟨k, e, hk⟩ | hq
  · obtain ⟨j, hj⟩ := List.mem_iff_getElem?.mp (h _ (List.mem_of_getElem? hk))
    exact Or.inl ⟨j, e, hj⟩
  · exact Or.inr hq
theorem up_A {w0 rest W0 : va_W} {sz : Nat} (hp : (w0 ++ rest).Perm W0) : ∀ q, va_A w0 sz q → va_A W0 sz q := va_A_mono (fun x hx => hp.mem_iff.mp (List.mem_append_left _ hx))
theorem up_post {D : va_G} {k : Nat → ClassId} {w0 rest W0 w1 W1 : va_W} {sz : Nat} {st t : State} (hp : (w0 ++ rest).Perm W0) (hP : va_P D vwCl W0 st.heap) (hD : va_D (fun _ => True) W0) (hsz : st.heap.size = sz) (hF : va_F (va_A w0 sz) st t) (h1 : PostW D k (va_A w0 sz) w1 t) (hq : (w1 ++ rest).Perm W1) : PostW D k (va_A W0 sz) W1 t := by
  subst hsz
  have hP2 := vs_perm hP hp
  have hD2 : va_D (va_A W0 st.heap.size) (w0 ++ rest) := vd_perm hD.self hp
  obtain ⟨a, b⟩ := vs_joinL hP2 hD2 (up_A hp) hF.2 h1.1 h1.2.2
  exact ⟨vs_perm a hq.symm, h1.2.1, vd_perm b hq.symm⟩
theorem up_F {w0 rest W0 : va_W} {sz : Nat} {st t : State} (hp : (w0 ++ rest).Perm W0) (hF : va_F (va_A w0 sz) st t) : va_F (va_A W0 sz) st t := ⟨hF.1, fun q h1 h2 => hF.2 q h1 (fun h => h2 (up_A hp q h))⟩
theorem up_N {D : va_G} {k : Nat → ClassId} {w0 rest W0 : va_W} {sz : Nat} {av : List Value} (hp : (w0 ++ rest).Perm W0) {a : Array Value} {s : State} (h : va_Pc av (PreN D k W0 sz) a s) : va_Pc av (PreN D k w0 sz) a s := by
  obtain ⟨e, ⟨h1, h2, h3, h4⟩, hN⟩ := h
  exact ⟨e, ⟨h1, vs_l (vs_perm h2 hp), h3, vd_l (vd_perm h4 hp)⟩, hN⟩
theorem met_upI {l : Launch} {y : MethodName} {ws : List Cond} {rm : Room} {av : List Value} {D : va_G} {k : Nat → ClassId} {w0 W0 : va_W} {w1 W1 : (Nat → Nat) → va_W} {r : Int32} {mc ms : Nat} (rest : va_W) (hM : ∀ sz, Met l y ws rm (va_Pc av (PreN D k w0 sz)) (va_Qi (fun r9 (_ : Nat → Nat) => r9 = r) (fun u t => PostW D k (va_A w0 sz) (w1 u) t) (va_A w0 sz)) mc ms (va_A w0 sz)) (hp : (w0 ++ rest).Perm W0) (hq : ∀ u, (w1 u ++ rest).Perm (W1 u)) (sz : Nat) : Met l y ws rm (va_Pc av (PreN D k W0 sz)) (va_Qi (fun r9 (_ : Nat → Nat) => r9 = r) (fun u t => PostW D k (va_A W0 sz) (W1 u) t) (va_A W0 sz)) mc ms (va_A W0 sz) := by
  refine MetFree.mono (hM sz) (fun a s h => up_N hp h) (fun _ _ _ _ _ h => h) ?_
  rintro a s o t ⟨e, ⟨h1, h2, h3, h4⟩, hN⟩ ⟨⟨⟨r9, u, ho, hr, hB⟩, hF⟩, L, hL, hfree⟩
  exact ⟨⟨⟨r9, u, ho, hr, up_post hp h2 h4 h1 hF hB (hq u)⟩, up_F hp hF⟩, L, hL, fun q hq => up_A hp _ (hfree q hq)⟩
theorem met_upL {l : Launch} {y : MethodName} {ws : List Cond} {rm : Room} {av : List Value} {D : va_G} {k : Nat → ClassId} {w0 W0 : va_W} {w1 W1 : (Nat → Nat) → va_W} {r : Int64} {mc ms : Nat} (rest : va_W) (hM : ∀ sz, Met l y ws rm (va_Pc av (PreN D k w0 sz)) (va_Ql (fun r9 (_ : Nat → Nat) => r9 = r) (fun u t => PostW D k (va_A w0 sz) (w1 u) t) (va_A w0 sz)) mc ms (va_A w0 sz)) (hp : (w0 ++ rest).Perm W0) (hq : ∀ u, (w1 u ++ rest).Perm (W1 u)) (sz : Nat) : Met l y ws rm (va_Pc av (PreN D k W0 sz)) (va_Ql (fun r9 (_ : Nat → Nat) => r9 = r) (fun u t => PostW D k (va_A W0 sz) (W1 u) t) (va_A W0 sz)) mc ms (va_A W0 sz) := by
  refine MetFree.mono (hM sz) (fun a s h => up_N hp h) (fun _ _ _ _ _ h => h) ?_
  rintro a s o t ⟨e, ⟨h1, h2, h3, h4⟩, hN⟩ ⟨⟨⟨r9, u, ho, hr, hB⟩, hF⟩, L, hL, hfree⟩
  exact ⟨⟨⟨r9, u, ho, hr, up_post hp h2 h4 h1 hF hB (hq u)⟩, up_F hp hF⟩, L, hL, fun q hq => up_A hp _ (hfree q hq)⟩
theorem met_gI {l : Launch} {y : MethodName} {ws : List Cond} {rm : Room} {av : List Value} {D : va_G} {k : Nat → ClassId} {w0 w1 : va_W} {r : Int32} {mc ms : Nat} (hM : ∀ sz, Met l y ws rm (va_Pc av (PreW D k w0 sz)) (va_Qi (fun r9 (_ : Unit) => r9 = r) (fun _ t => PostW D k (va_A w0 sz) w1 t) (va_A w0 sz)) mc ms (va_A w0 sz)) (sz : Nat) : Met l y ws rm (va_Pc av (PreN D k w0 sz)) (va_Qi (fun r9 (_ : Nat → Nat) => r9 = r) (fun _ t => PostW D k (va_A w0 sz) w1 t) (va_A w0 sz)) mc ms (va_A w0 sz) := by
  refine MetFree.mono (hM sz) (fun a s h => ⟨h.1, h.2.1⟩) (fun _ _ _ _ _ h => h) ?_
  rintro a s o t - ⟨⟨⟨r9, u, ho, hr, hB⟩, hF⟩, hL⟩
  exact ⟨⟨⟨r9, fun _ => 0, ho, hr, hB⟩, hF⟩, hL⟩
theorem met_gL {l : Launch} {y : MethodName} {ws : List Cond} {rm : Room} {av : List Value} {D : va_G} {k : Nat → ClassId} {w0 w1 : va_W} {r : Int64} {mc ms : Nat} (hM : ∀ sz, Met l y ws rm (va_Pc av (PreW D k w0 sz)) (va_Ql (fun r9 (_ : Unit) => r9 = r) (fun _ t => PostW D k (va_A w0 sz) w1 t) (va_A w0 sz)) mc ms (va_A w0 sz)) (sz : Nat) : Met l y ws rm (va_Pc av (PreN D k w0 sz)) (va_Ql (fun r9 (_ : Nat → Nat) => r9 = r) (fun _ t => PostW D k (va_A w0 sz) w1 t) (va_A w0 sz)) mc ms (va_A w0 sz) := by
  refine MetFree.mono (hM sz) (fun a s h => ⟨h.1, h.2.1⟩) (fun _ _ _ _ _ h => h) ?_
  rintro a s o t - ⟨⟨⟨r9, u, ho, hr, hB⟩, hF⟩, hL⟩
  exact ⟨⟨⟨r9, fun _ => 0, ho, hr, hB⟩, hF⟩, hL⟩
theorem thr_up {l : Launch} {y : MethodName} {ws : List Cond} {rm : Room} {av : List Value} {D : va_G} {k : Nat → ClassId} {w0 W0 : va_W} {E : String} {mc ms : Nat} (rest : va_W) (hM : ∀ sz, vx_Met l y ws rm (va_Pc av (PreX D k w0 sz)) NQ (XQ D k w0 sz E) mc ms (va_A w0 sz)) (hp : (w0 ++ rest).Perm W0) (sz : Nat) : vx_Met l y ws rm (va_Pc av (PreX D k W0 sz)) NQ (XQ D k W0 sz E) mc ms (va_A W0 sz) := by
  refine MetFree.mono (hM sz) ?_ (fun _ _ _ _ _ h => h) ?_
  · rintro a s ⟨e, ⟨h1, h2, h3, h4⟩, x1, x2, x3⟩
    exact ⟨e, ⟨h1, vs_l (vs_perm h2 hp), h3, vd_l (vd_perm h4 hp)⟩, x1.narrow (up_A hp), x2.narrow (up_A hp), x3⟩
  · rintro a s o t ⟨e, ⟨h1, h2, h3, h4⟩, hX⟩ (⟨hn, -⟩ | ⟨q, ho, E', ce, L, ⟨u, hp9, ⟨hE, hB⟩, hF⟩, g1, g2, g3, g4, g5, g6⟩)
    · exact absurd hn id
    · exact Or.inr ⟨q, ho, E', ce, L, ⟨u, hp9, ⟨hE, up_post hp h2 h4 h1 hF hB hp⟩, up_F hp hF⟩, g1, g2, g3, g4, g5, fun z hz => up_A hp _ (g6 z hz)⟩
theorem pmUI {U I R : va_W} : ((U ++ I) ++ R).Perm (U ++ (I ++ R)) := by rw [List.append_assoc]
theorem pmUL {U I L R : va_W} : ((U ++ L) ++ (I ++ R)).Perm (U ++ (I ++ (L ++ R))) := pmc (fun a => by simp only [List.count_append]; omega)
theorem pmUV {U I L S B V R : va_W} : ((U ++ V) ++ (I ++ (L ++ (S ++ (B ++ R))))).Perm (U ++ (I ++ (L ++ (S ++ (B ++ (V ++ R)))))) := pmc (fun a => by simp only [List.count_append]; omega)
theorem pmUC {U I L S B V C R : va_W} : ((U ++ C) ++ (I ++ (L ++ (S ++ (B ++ (V ++ R)))))).Perm (U ++ (I ++ (L ++ (S ++ (B ++ (V ++ (C ++ R))))))) := pmc (fun a => by simp only [List.count_append]; omega)
theorem pmULS {U I L S R : va_W} : ((U ++ (L ++ S)) ++ (I ++ R)).Perm (U ++ (I ++ (L ++ (S ++ R)))) := pmc (fun a => by simp only [List.count_append]; omega)
theorem pmUIA {U I L S B V C F : va_W} : ((U ++ I ++ F) ++ (L ++ (S ++ (B ++ (V ++ C))))).Perm (U ++ (I ++ (L ++ (S ++ (B ++ (V ++ (C ++ F))))))) := pmc (fun a => by simp only [List.count_append]; omega)
theorem pmUIF {U I L S B V C F Fi Fo : va_W} (h : F.Perm (Fi ++ Fo)) : ((U ++ I ++ Fi) ++ (L ++ (S ++ (B ++ (V ++ (C ++ Fo)))))).Perm (U ++ (I ++ (L ++ (S ++ (B ++ (V ++ (C ++ F))))))) := pmc (fun a => by
  have e := h.count_eq a
  simp only [List.count_append] at e ⊢
  omega)
theorem pmUIFB {U I L S B V C F Fi Fo : va_W} (h : F.Perm (Fi ++ Fo)) : ((U ++ I ++ Fi ++ B) ++ (L ++ (S ++ (V ++ (C ++ Fo))))).Perm (U ++ (I ++ (L ++ (S ++ (B ++ (V ++ (C ++ F))))))) := pmc (fun a => by
  have e := h.count_eq a
  simp only [List.count_append] at e ⊢
  omega)
theorem pmUIFBV {U I L S B V C F Fi Fo : va_W} (h : F.Perm (Fi ++ Fo)) : ((U ++ I ++ Fi ++ B ++ V) ++ (L ++ (S ++ (C ++ Fo)))).Perm (U ++ (I ++ (L ++ (S ++ (B ++ (V ++ (C ++ F))))))) := pmc (fun a => by
  have e := h.count_eq a
  simp only [List.count_append] at e ⊢
  omega)
theorem pmUIFBVC {U I L S B V C F Fi Fo : va_W} (h : F.Perm (Fi ++ Fo)) : ((U ++ I ++ Fi ++ B ++ V ++ C) ++ (L ++ (S ++ Fo))).Perm (U ++ (I ++ (L ++ (S ++ (B ++ (V ++ (C ++ F))))))) := pmc (fun a => by
  have e := h.count_eq a
  simp only [List.count_append] at e ⊢
  omega)
theorem bnd0_s {β : Type} (f : Option β) : bnd0 (some ()) f = f := rfl
theorem ck_I {i : Nat} (hi : i < 6) : fX6_checkInput (nI i) = some () := by
  unfold fX6_checkInput
  rw [if_neg (nI_pos (by omega)), if_pos (show nI i < 6 from (nI_ltI (b := 6) (by omega) (by omega)).mpr hi)]
theorem ck_R {v a b : Int32} (h : ¬ (v < a ∨ ¬ v ≤ b)) : fX6_checkRange v a b = some () := by
  unfold fX6_checkRange
  rw [if_neg (fun q => h (Or.inl q)), if_pos (Decidable.not_not.mp (fun q => h (Or.inr q)))]
theorem rg {v a b : Int32} : (v < a ∨ b < v) ↔ (v < a ∨ ¬ v ≤ b) := by rw [Int32.not_le]
theorem vin6 {i : Nat} (hi : i < 6) : vp_in (nI i) 6 := vp_in_nI hi (by omega)
theorem vin8 {i : Nat} (hi : i < 8) : vp_in (nI i) 8 := vp_in_nI hi (by omega)
theorem fRow_in {i c : Nat} (hc : c ≤ 8) (hi : i < c) (aF : Nat → Nat → Nat) : vp_in (nI i) 8 ∧ fRow c aF (nI i).toNatClampNeg = some (aF i 0) := ⟨vin8 (by omega), by rw [clamp_n (show i < 2 ^ 31 by omega)]; exact if_pos hi⟩
theorem gF_s {α : Type} {c i : Nat} (hc : c ≤ 8) (hi : i < c) (aF : Nat → Nat → Nat) (x : Option α) : gF (fRow c aF) (nI i) (aF i 0) x = x := by
  obtain ⟨h1, h2⟩ := fRow_in hc hi aF
  unfold gF
  rw [if_neg h1, if_pos h2]
theorem FW_app {k : Nat → ClassId} {aF : Nat → Nat → Nat} {X : Nat → FC} {L M : List Nat} : FW k aF X (L ++ M) = FW k aF X L ++ FW k aF X M := List.flatMap_append
theorem FW_new {k : Nat → ClassId} {aF : Nat → Nat → Nat} {X : Nat → FC} {c : Nat} {a : Nat → Nat} {Z : FC} : (FW k (st aF c a) (setF X c Z) (List.range (c + 1))).Perm (wFc k a Z ++ FW k aF X (List.range c)) := by
  have e1 : FW k (st aF c a) (setF X c Z) (List.range c) = FW k aF X (List.range c) := FW_congr (fun i hi => ⟨if_neg (by have := List.mem_range.mp hi; omega), if_neg (by have := List.mem_range.mp hi; omega)⟩)
  have e2 : FW k (st aF c a) (setF X c Z) [c] = wFc k a Z := by
    rw [FW_cons]
    show wFc k (st aF c a c) (setF X c Z c) ++ [] = _
    rw [List.append_nil, st_at, show setF X c Z c = Z from if_pos rfl]
  rw [List.range_succ, FW_app, e1, e2]
  exact List.perm_append_comm
theorem FW_putA {k : Nat → ClassId} {aF : Nat → Nat → Nat} {X : Nat → FC} {a : Nat → Nat} {Z : FC} {c i : Nat} (hi : i < c) : (FW k (st aF i a) (setF X i Z) (List.range c)).Perm (wFc k a Z ++ FW k aF X (others c i)) := by
  have e2 : FW k (st aF i a) (setF X i Z) (others c i) = FW k aF X (others c i) := FW_congr (fun j hj => ⟨if_neg (others_ne hj), if_neg (others_ne hj)⟩)
  have e1 : wFc k (st aF i a i) (setF X i Z i) = wFc k a Z := by rw [st_at, show setF X i Z i = Z from if_pos rfl]
  have h := FW_pick (k := k) (aF := st aF i a) (X := setF X i Z) hi
  rw [e1, e2] at h
  exact h
theorem pmNew {U I L S T B V C F F' : va_W} (h : F'.Perm (S ++ F)) : ((U ++ (L ++ S) ++ T) ++ (I ++ (B ++ (V ++ (C ++ F))))).Perm (U ++ (I ++ (L ++ (T ++ (B ++ (V ++ (C ++ F'))))))) := pmc (fun a => by
  have e := h.count_eq a
  simp only [List.count_append] at e ⊢
  omega)
theorem pmOld {U I L S T B V C F F' O : va_W} (h : F.Perm (T ++ O)) (h' : F'.Perm (S ++ O)) : ((U ++ (L ++ S)) ++ (I ++ (B ++ (V ++ (C ++ F))))).Perm (U ++ (I ++ (L ++ (T ++ (B ++ (V ++ (C ++ F'))))))) := pmc (fun a => by
  have e := h.count_eq a
  have e' := h'.count_eq a
  simp only [List.count_append] at e e' ⊢
  omega)
theorem five {v : Int32} (h : ¬ (v < 0 ∨ 4 < v)) : v = 0 ∨ v = 1 ∨ v = 2 ∨ v = 3 ∨ v = 4 := by
  obtain ⟨j, hj, rfl⟩ := ix_of (hi := 4) (n := 4) (by decide) (fun q => h (Or.inl q)) (fun q => h (Or.inr q)) (by omega)
  rcases (show j = 0 ∨ j = 1 ∨ j = 2 ∨ j = 3 ∨ j = 4 by omega) with rfl | rfl | rfl | rfl | rfl
  · exact Or.inl rfl
  · exact Or.inr (Or.inl rfl)
  · exact Or.inr (Or.inr (Or.inl rfl))
  · exact Or.inr (Or.inr (Or.inr (Or.inl rfl)))
  · exact Or.inr (Or.inr (Or.inr (Or.inr rfl)))
/-! ===== what a call of the book asks, and what may come of it ===== -/
/-- a variance, a doubt, a factor, a stated doubt -/
def vrO (o : OBk) (m : Nat) : Int64 := varTo (ose o m) (oI o 1) (ocv o) 6
def ptO (o : OBk) (m i : Nat) : Int64 := partOf (ose o m) (oI o 1) i
def sdO (o : OBk) (m : Nat) : Int64 := if dbt (vrO o m) = -1 then -1 else if ofa o m = -1 then -1 else dbt (vrO o m) * (ofa o m).toInt64 / 100
def budO (o : OBk) (m : Nat) (v : Int32) : Int64 := if v = 0 then vrO o m else if v = 1 then dbt (vrO o m) else if v = 3 then (ofa o m).toInt64 else sdO o m
def cb_shape (v1 v2 v3 v4 : Int32) (o : OBk) (K : Int32 → OBk → Prop) : Prop := ∃ i, i < 6 ∧ v1 = nI i ∧ ¬ shapeBad v2 v3 v4 ∧ ∀ (va : Nat → Int64) (se : Nat → Nat → Int64) (fa : Nat → Int32), OFo (mkO (oc o) (st (st (st (st (st (oI o) 0 (upd (oI o 0) i v2)) 1 (upd (oI o 1) i (varOf v3 v4))) 2 (upd (oI o 2) i v3)) 3 (upd (oI o 3) i v4)) 4 (upd (oI o 4) i 0)) (ocv o) (oln o) (ocd o) va se (ods o) fa (otn o) (ox o)) → K (varOf v3 v4) (mkO (oc o) (st (st (st (st (st (oI o) 0 (upd (oI o 0) i v2)) 1 (upd (oI o 1) i (varOf v3 v4))) 2 (upd (oI o 2) i v3)) 3 (upd (oI o 3) i v4)) 4 (upd (oI o 4) i 0)) (ocv o) (oln o) (ocd o) va se (ods o) fa (otn o) (ox o))
def rdI (o : OBk) (i c : Nat) (q a : Int32) : TT := st (st (st (st (oI o) 0 (upd (oI o 0) i q)) 1 (upd (oI o 1) i a)) 2 (upd (oI o 2) i 4)) 4 (upd (oI o 4) i (nI (c + 1)))
def cb_read (v1 v2 : Int32) (o : OBk) (K : Int32 → OBk → Prop) : Prop := ∃ i c, i < 6 ∧ v1 = nI i ∧ smallR v2 ∧ c ≤ 8 ∧ oI o 4 i = nI c ∧ (c = 8 → K (-2) o) ∧ (c < 8 → ∀ (q a : Int32) (va : Nat → Int64) (se : Nat → Nat → Int64) (fa : Nat → Int32), 0 ≤ a → (c = 0 → q = v2 ∧ a = 0) → OFo (mkO (oc o) (rdI o i c q a) (ocv o) (oln o) (ocd o) va se (ods o) fa (otn o) (ox o)) → K a (mkO (oc o) (rdI o i c q a) (ocv o) (oln o) (ocd o) va se (ods o) fa (otn o) (ox o)))
def cb_unit (v1 v2 v3 : Int32) (o : OBk) (K : Int32 → OBk → Prop) : Prop := ∃ i, i < 6 ∧ v1 = nI i ∧ ¬ (v2 < (-3) ∨ ¬ v2 ≤ 3) ∧ ¬ (v3 < (-3) ∨ ¬ v3 ≤ 3) ∧ ∀ ds : Nat → Int32, OFo (mkO (oc o) (st (st (oI o) 5 (upd (oI o 5) i v2)) 6 (upd (oI o 6) i v3)) (ocv o) (oln o) (ocd o) (ova o) (ose o) ds (ofa o) (otn o) (ox o)) → K (nI (cntD ds (oc o))) (mkO (oc o) (st (st (oI o) 5 (upd (oI o 5) i v2)) 6 (upd (oI o 6) i v3)) (ocv o) (oln o) (ocd o) (ova o) (ose o) ds (ofa o) (otn o) (ox o))
def cb_together (v1 v2 v3 : Int32) (o : OBk) (K : Int32 → OBk → Prop) : Prop := ∃ i j, i < 6 ∧ j < 6 ∧ ¬ i = j ∧ v1 = nI i ∧ v2 = nI j ∧ ¬ (v3 < (-9999) ∨ ¬ v3 ≤ 9999) ∧ ∀ fa : Nat → Int32, OFo (mkO (oc o) (oI o) (upd2 (upd2 (ocv o) i j v3) j i v3) (oln o) (ocd o) (ova o) (ose o) (ods o) fa (otn o) (ox o)) → K (ocv o i j) (mkO (oc o) (oI o) (upd2 (upd2 (ocv o) i j v3) j i v3) (oln o) (ocd o) (ova o) (ose o) (ods o) fa (otn o) (ox o))
def cb_input (v1 v2 : Int32) (o : OBk) (K : Int32 → OBk → Prop) : Prop := ∃ i, i < 6 ∧ v1 = nI i ∧ ¬ (v2 < 0 ∨ 4 < v2) ∧ K (inpAns (oI o 0) (oI o 1) (oI o 2) (oI o 3) (oI o 4) i v2) o
def cb_type (v1 : Int64) (o : OBk) (K : Int32 → OBk → Prop) : Prop := ∃ n c, n < 2 ^ 64 ∧ v1 = lN n ∧ fstZ n c ∧ okSigns n c ∧ oln o + c ≤ 60 ∧ (OFo (mkO (oc o) (oI o) (ocv o) (oln o + c) (cdAp (oln o) (ocd o) n c) (ova o) (ose o) (ods o) (ofa o) (otn o) (ox o)) → K (nI (oln o + c)) (mkO (oc o) (oI o) (ocv o) (oln o + c) (cdAp (oln o) (ocd o) n c) (ova o) (ose o) (ods o) (ofa o) (otn o) (ox o)))
/-- a line that is read whole -/
def okLn (ln : Nat) (cd : Nat → Nat) : Prop := ∀ (L : Nat → Int32) (lat : Int32) (q : TT) (sz rt : Int32), LnK ln cd L → ∃ (n j : Nat) (q' : TT), fX5_readInto L (nI ln) lat (q 0) (q 1) (q 2) (q 3) sz rt = some (-1, 0, nI ln, q' 0, q' 1, q' 2, q' 3, nI n, nI j) ∧ 1 ≤ n ∧ n ≤ ln ∧ j < n ∧ (∀ i, i < n → rowOK i (q' 0 i) (q' 1 i) (q' 2 i)) ∧ ∀ i, i < n → ∃ p, p < 60 ∧ q' 3 i = nI p
/-- a line whose first sign cannot stand there -/
def badLn (ln : Nat) (cd : Nat → Nat) : Prop := ∀ (L : Nat → Int32) (lat : Int32) (q : TT) (sz rt : Int32), LnK ln cd L → ∃ (K2 L2 R2 P2 : Nat → Int32) (sz2 : Int32), fX5_readInto L (nI ln) lat (q 0) (q 1) (q 2) (q 3) sz rt = some (0, 0, 0, K2, L2, R2, P2, sz2, 0)
def cb_model (v1 : Int32) (o : OBk) (K : Int32 → OBk → Prop) : Prop := ∃ m, m < 8 ∧ m ≤ oc o ∧ v1 = nI m ∧ ((okLn (oln o) (ocd o) ∧ ∀ (n : Nat) (va : Nat → Int64) (se : Nat → Nat → Int64) (ds fa : Nat → Int32), 1 ≤ n → n ≤ oln o → OFo (mkO (if m = oc o then oc o + 1 else oc o) (oI o) (ocv o) 0 (fun _ => 0) va se ds fa (otn o) (ox o)) → K (nI n) (mkO (if m = oc o then oc o + 1 else oc o) (oI o) (ocv o) 0 (fun _ => 0) va se ds fa (otn o) (ox o))) ∨
  (badLn (oln o) (ocd o) ∧ (OFo (mkO (oc o) (oI o) (ocv o) 0 (fun _ => 0) (ova o) (ose o) (ods o) (ofa o) (otn o) (ox o)) → K (-1) (mkO (oc o) (oI o) (ocv o) 0 (fun _ => 0) (ova o) (ose o) (ods o) (ofa o) (otn o) (ox o)))))
def cb_disagrees (v1 : Int32) (o : OBk) (K : Int32 → OBk → Prop) : Prop := ∃ m, m < oc o ∧ v1 = nI m ∧ K (ods o m) o
def cb_value (v1 : Int32) (o : OBk) (K : Int64 → OBk → Prop) : Prop := ∃ m, m < oc o ∧ v1 = nI m ∧ K (ova o m) o
def cb_sensitivity (v1 v2 : Int32) (o : OBk) (K : Int64 → OBk → Prop) : Prop := ∃ m i, m < oc o ∧ i < 6 ∧ v1 = nI m ∧ v2 = nI i ∧ K (ose o m i) o
def cb_sensitivityAnew (v1 v2 : Int32) (o : OBk) (K : Int64 → OBk → Prop) : Prop := ∃ m i, m < oc o ∧ i < 6 ∧ v1 = nI m ∧ v2 = nI i ∧ K (ose o m i) o
def cb_budget (v1 v2 : Int32) (o : OBk) (K : Int64 → OBk → Prop) : Prop := ∃ m, m < oc o ∧ v1 = nI m ∧ (v2 = 0 ∨ v2 = 1 ∨ v2 = 3 ∨ v2 = 4) ∧ K (budO o m v2) o
def cb_contribution (v1 v2 v3 : Int32) (o : OBk) (K : Int64 → OBk → Prop) : Prop := ∃ m i, m < oc o ∧ i < 6 ∧ v1 = nI m ∧ v2 = nI i ∧ K (if v3 = 0 then ptO o m i else shareAt (ptO o m i) (vrO o m)) o
def cb_ranked (v1 v2 : Int32) (o : OBk) (K : Int32 → OBk → Prop) : Prop := ∃ m p, m < oc o ∧ p ≤ 6 ∧ v1 = nI m ∧ v2 = nI p ∧ ∀ r : Int32, ((∃ j, j < 6 ∧ r = nI j ∧ rankTo (ptO o m) j 6 = p) ∨ (r = -1 ∧ ∀ j, j < 6 → rankTo (ptO o m) j 6 ≠ p)) → K r o
def cb_table (v1 v2 : Int32) (o : OBk) (K : Int32 → OBk → Prop) : Prop := ¬ tabBad v1 v2 ∧ (∀ (t : Nat) (fa : Nat → Int32), t ≤ otn o + 1 → otn o ≤ t + 1 → OFo (mkO (oc o) (oI o) (ocv o) (oln o) (ocd o) (ova o) (ose o) (ods o) fa t (ox o)) → K (nI t) (mkO (oc o) (oI o) (ocv o) (oln o) (ocd o) (ova o) (ose o) (ods o) fa t (ox o))) ∧ (otn o = 12 → K (-2) o)
def cb_seed (v1 : Int32) (o : OBk) (K : Int32 → OBk → Prop) : Prop := ∃ y, y ≤ 65536 ∧ v1 = nI y ∧ (OFo (mkO (oc o) (oI o) (ocv o) (oln o) (ocd o) (ova o) (ose o) (ods o) (ofa o) (otn o) y) → K (nI (ox o)) (mkO (oc o) (oI o) (ocv o) (oln o) (ocd o) (ova o) (ose o) (ods o) (ofa o) (otn o) y))
def cb_draw (v1 v2 : Int32) (o : OBk) (K : Int32 → OBk → Prop) : Prop := ∃ m d, m < oc o ∧ 1 ≤ d ∧ d ≤ 100 ∧ v1 = nI m ∧ v2 = nI d ∧ ∀ h y, h ≤ d → (sdO o m = -1 → h = 0) → OFo (mkO (oc o) (oI o) (ocv o) (oln o) (ocd o) (ova o) (ose o) (ods o) (ofa o) (otn o) y) → K (nI h) (mkO (oc o) (oI o) (ocv o) (oln o) (ocd o) (ova o) (ose o) (ods o) (ofa o) (otn o) y)
/-- what a call's end says: the answer and what is seen behind it, and that it is a book's -/
def pB (k : Nat → ClassId) (a0 : Nat) (K : Int32 → OBk → Prop) : Int32 → OBk × va_W → Prop := fun r9 u => K r9 u.1 ∧ isBk k a0 u.1 u.2
def pBL (k : Nat → ClassId) (a0 : Nat) (K : Int64 → OBk → Prop) : Int64 → OBk × va_W → Prop := fun r9 u => K r9 u.1 ∧ isBk k a0 u.1 u.2
def pD (k : Nat → ClassId) (a0 : Nat) (K : Int32 → OBk → (Nat → Int32) → Prop) : Int32 → OBk × va_W × (Nat → Int32) → Prop := fun r9 u => K r9 u.1 u.2.2 ∧ isBk k a0 u.1 u.2.1
def pE (k : Nat → ClassId) (a0 : Nat) (K : Int32 → OBk → (Nat → Int32) → (Nat → Int32) → Prop) : Int32 → OBk × va_W × (Nat → Int32) × (Nat → Int32) → Prop := fun r9 u => K r9 u.1 u.2.2.1 u.2.2.2 ∧ isBk k a0 u.1 u.2.1
theorem pB_i {k : Nat → ClassId} {a0 : Nat} {K : Int32 → OBk → Prop} {r : Int32} {o : OBk} {wb : va_W} (h : K r o) (hb : isBk k a0 o wb) : pB k a0 K r (o, wb) := ⟨h, hb⟩
theorem pBL_i {k : Nat → ClassId} {a0 : Nat} {K : Int64 → OBk → Prop} {r : Int64} {o : OBk} {wb : va_W} (h : K r o) (hb : isBk k a0 o wb) : pBL k a0 K r (o, wb) := ⟨h, hb⟩
theorem pD_i {k : Nat → ClassId} {a0 : Nat} {K : Int32 → OBk → (Nat → Int32) → Prop} {r : Int32} {o : OBk} {wb : va_W} {d : Nat → Int32} (h : K r o d) (hb : isBk k a0 o wb) : pD k a0 K r (o, wb, d) := ⟨h, hb⟩
theorem pE_i {k : Nat → ClassId} {a0 : Nat} {K : Int32 → OBk → (Nat → Int32) → (Nat → Int32) → Prop} {r : Int32} {o : OBk} {wb : va_W} {d w : Nat → Int32} (h : K r o d w) (hb : isBk k a0 o wb) : pE k a0 K r (o, wb, d, w) := ⟨h, hb⟩
/-- a call of the book that answers an int; a long -/
def CbI (l : Launch) (D : va_G) (k : Nat → ClassId) (y : MethodName) (ws : List Cond) (rm : Room) (av : List Value) (wb : va_W) (a0 : Nat) (K : Int32 → OBk → Prop) (mc ms : Nat) : Prop := ∀ sz : Nat, Met l y ws rm (va_Pc av (PreN D k wb sz)) (va_Qi (pB k a0 K) (fun u t => PostW D k (va_A wb sz) u.2 t) (va_A wb sz)) mc ms (va_A wb sz)
def CbL (l : Launch) (D : va_G) (k : Nat → ClassId) (y : MethodName) (ws : List Cond) (rm : Room) (av : List Value) (wb : va_W) (a0 : Nat) (K : Int64 → OBk → Prop) (mc ms : Nat) : Prop := ∀ sz : Nat, Met l y ws rm (va_Pc av (PreN D k wb sz)) (va_Ql (pBL k a0 K) (fun u t => PostW D k (va_A wb sz) u.2 t) (va_A wb sz)) mc ms (va_A wb sz)
theorem cbI_of {l : Launch} {D : va_G} {k : Nat → ClassId} {y : MethodName} {ws : List Cond} {rm : Room} {av : List Value} {wb : va_W} {a0 : Nat} {K : Int32 → OBk → Prop} {mc ms : Nat} (W1 : (Nat → Nat) → va_W) {r : Int32} {o' : OBk} (h : ∀ sz : Nat, Met l y ws rm (va_Pc av (PreN D k wb sz)) (va_Qi (fun r9 (_ : Nat → Nat) => r9 = r) (fun u t => PostW D k (va_A wb sz) (W1 u) t) (va_A wb sz)) mc ms (va_A wb sz)) (hb : ∀ u, isBk k a0 o' (W1 u)) (hk : OFo o' → K r o') : CbI l D k y ws rm av wb a0 K mc ms := fun sz => by
  refine MetFree.mono (h sz) (fun _ _ h => h) (fun _ _ _ _ _ h => h) ?_
  rintro a s o t - ⟨⟨⟨r9, u, ho, hr, hB⟩, hF⟩, hL⟩
  exact ⟨⟨⟨r9, (o', W1 u), ho, pB_i (by rw [hr]; exact hk (isBk_OF (hb u))) (hb u), hB⟩, hF⟩, hL⟩
theorem cbL_of {l : Launch} {D : va_G} {k : Nat → ClassId} {y : MethodName} {ws : List Cond} {rm : Room} {av : List Value} {wb : va_W} {a0 : Nat} {K : Int64 → OBk → Prop} {mc ms : Nat} (W1 : (Nat → Nat) → va_W) {r : Int64} {o' : OBk} (h : ∀ sz : Nat, Met l y ws rm (va_Pc av (PreN D k wb sz)) (va_Ql (fun r9 (_ : Nat → Nat) => r9 = r) (fun u t => PostW D k (va_A wb sz) (W1 u) t) (va_A wb sz)) mc ms (va_A wb sz)) (hb : ∀ u, isBk k a0 o' (W1 u)) (hk : OFo o' → K r o') : CbL l D k y ws rm av wb a0 K mc ms := fun sz => by
  refine MetFree.mono (h sz) (fun _ _ h => h) (fun _ _ _ _ _ h => h) ?_
  rintro a s o t - ⟨⟨⟨r9, u, ho, hr, hB⟩, hF⟩, hL⟩
  exact ⟨⟨⟨r9, (o', W1 u), ho, pBL_i (by rw [hr]; exact hk (isBk_OF (hb u))) (hb u), hB⟩, hF⟩, hL⟩
def fdE (Z : FC) (u1 u2 : Nat → Int32) : Nat → Int32 := match fX3_findDisagreement (Z.1 0) (Z.1 1) (Z.1 2) (Z.1 3) (Z.1 4) Z.2.2.1 Z.2.2.2 u1 u2 with
  | some p => p.2
  | none => fun _ => 0
theorem f_disE {Z : FC} (h : okFo Z) (u1 u2 : Nat → Int32) : fX3_findDisagreement (Z.1 0) (Z.1 1) (Z.1 2) (Z.1 3) (Z.1 4) Z.2.2.1 Z.2.2.2 u1 u2 = some (disC Z u1 u2, fdE Z u1 u2) := by
  obtain ⟨X2, e, -⟩ := f_dis h u1 u2 (Z.1 4)
  have : fdE Z u1 u2 = X2 := by
    unfold fdE
    rw [e]
  rw [this]
  exact e
theorem cntD_congr {f g : Nat → Int32} : ∀ {n : Nat}, (∀ i, i < n → f i = g i) → cntD f n = cntD g n
  | 0, _ => rfl
  | n + 1, h => by
    unfold cntD
    rw [cntD_congr (n := n) (fun i q => h i (by omega)), h n (by omega)]
