/-! ===== what can be seen of a book ===== -/
def st {α : Type} (t : Nat → α) (n : Nat) (v : α) : Nat → α := fun m => if m = n then v else t m
theorem st_at {α : Type} (t : Nat → α) (n : Nat) (v : α) : st t n v n = v := if_pos rfl
theorem st_ne {α : Type} (t : Nat → α) {n m : Nat} (v : α) (h : ¬ m = n) : st t n v m = t m := if_neg h
/-- models; rows of the inputs; covariances; the line; values; sensitivities; disagreements; factors; rows of the table; the seed -/
abbrev OBk : Type := Nat × TT × (Nat → Nat → Int32) × (Nat × (Nat → Nat)) × (Nat → Int64) × (Nat → Nat → Int64) × (Nat → Int32) × (Nat → Int32) × Nat × Nat
abbrev mkO (c : Nat) (I : TT) (cv : Nat → Nat → Int32) (ln : Nat) (cd : Nat → Nat) (va : Nat → Int64) (se : Nat → Nat → Int64) (ds fa : Nat → Int32) (tn x : Nat) : OBk := (c, I, cv, (ln, cd), va, se, ds, fa, tn, x)
abbrev oc (o : OBk) : Nat := o.1
abbrev oI (o : OBk) : TT := o.2.1
abbrev ocv (o : OBk) : Nat → Nat → Int32 := o.2.2.1
abbrev oln (o : OBk) : Nat := o.2.2.2.1.1
abbrev ocd (o : OBk) : Nat → Nat := o.2.2.2.1.2
abbrev ova (o : OBk) : Nat → Int64 := o.2.2.2.2.1
abbrev ose (o : OBk) : Nat → Nat → Int64 := o.2.2.2.2.2.1
abbrev ods (o : OBk) : Nat → Int32 := o.2.2.2.2.2.2.1
abbrev ofa (o : OBk) : Nat → Int32 := o.2.2.2.2.2.2.2.1
abbrev otn (o : OBk) : Nat := o.2.2.2.2.2.2.2.2.1
abbrev ox (o : OBk) : Nat := o.2.2.2.2.2.2.2.2.2
def valC (Z : FC) (E : Nat → Int32) : Int64 := valsTo (Z.1 0) (Z.1 1) (Z.1 2) E Z.2.2.1.toNatClampNeg (fun _ => 0) Z.2.2.2.toNatClampNeg
def senC (Z : FC) (E : Nat → Int32) (j : Nat) : Int64 := slopesTo (Z.1 0) (Z.1 1) (Z.1 2) (nI j) (valsTo (Z.1 0) (Z.1 1) (Z.1 2) E Z.2.2.1.toNatClampNeg (fun _ => 0)) Z.2.2.1.toNatClampNeg (fun _ => 0) Z.2.2.2.toNatClampNeg
def disC (Z : FC) (u1 u2 : Nat → Int32) : Int32 := match fX3_findDisagreement (Z.1 0) (Z.1 1) (Z.1 2) (Z.1 3) (fun _ => 0) Z.2.2.1 Z.2.2.2 u1 u2 with
  | some p => p.1
  | none => 0
def facC (se : Nat → Int64) (Y : TT) (cv : Nat → Nat → Int32) (Vd Vf : Nat → Int32) (Vc : Int32) : Int32 := match fX0_factor (degSum (Y 4) (partOf se (Y 1)) (varTo se (Y 1) cv 6) 6) Vd Vf Vc with
  | some r => r
  | none => 0
/-- a formula in order -/
def okFo (Z : FC) : Prop := ∃ n r, n ≤ 60 ∧ r < n ∧ Z.2.2.1 = nI n ∧ Z.2.2.2 = nI r ∧ (∀ j, j < n → rowOK j (Z.1 0 j) (Z.1 1 j) (Z.1 2 j)) ∧ ∀ j, j < n → ∃ p, p < 60 ∧ Z.1 3 j = nI p
theorem valsTo_ag {K L R u : Nat → Int32} {V V2 : Nat → Int64} {n : Nat} (hn : n ≤ 60) (h : ∀ j, j < n → rowOK j (K j) (L j) (R j)) {j : Nat} (hj : j < n) : valsTo K L R u n V j = valsTo K L R u n V2 j := valsTo_u (fun _ _ => rfl) hn h j hj
theorem slopes_ag {K L R u : Nat → Int32} {i : Int32} {V V2 S S2 : Nat → Int64} {n : Nat} (hn : n ≤ 60) (h : ∀ j, j < n → rowOK j (K j) (L j) (R j)) {j : Nat} (hj : j < n) : slopesTo K L R i (valsTo K L R u n V) n S j = slopesTo K L R i (valsTo K L R u n V2) n S2 j :=
  slopesTo_agree hn h (fun j q => valsTo_ag hn h q) j hj
theorem f_val {Z : FC} (h : okFo Z) (E : Nat → Int32) (X : Nat → Int64) : ∃ X2, fX3_reckonBy (Z.1 0) (Z.1 1) (Z.1 2) X Z.2.2.1 Z.2.2.2 E = some (valC Z E, X2) := by
  obtain ⟨n, r, hn, hr, e1, e2, hok, -⟩ := h
  unfold valC
  rw [e1, e2, clamp_n (by omega), clamp_n (by omega), c_reckonBy hn hok (by omega) E X, valsTo_ag (V2 := fun _ => 0) hn hok hr]
  exact ⟨_, rfl⟩
theorem f_sen {Z : FC} (h : okFo Z) (E : Nat → Int32) (j : Nat) (X W : Nat → Int64) : ∃ X2 W2, fX3_slopeForward (nI j) (Z.1 0) (Z.1 1) (Z.1 2) X W Z.2.2.1 Z.2.2.2 E = some (senC Z E j, X2, W2) := by
  obtain ⟨n, r, hn, hr, e1, e2, hok, -⟩ := h
  unfold senC
  rw [e1, e2, clamp_n (by omega), clamp_n (by omega), c_slopeForward hn hok (by omega) (nI j) E X W, slopes_ag (V2 := fun _ => 0) (S2 := fun _ => 0) hn hok hr]
  exact ⟨_, _, rfl⟩
theorem f_back {Z : FC} (h : okFo Z) (E : Nat → Int32) (X W w : Nat → Int64) : ∃ X2 A2 w2, fX3_slopesBackward (Z.1 0) (Z.1 1) (Z.1 2) X W Z.2.2.1 Z.2.2.2 E w = some (X2, A2, w2) ∧ ∀ i, i < 6 → w2 i = senC Z E i := by
  obtain ⟨n, r, hn, hr, e1, e2, hok, -⟩ := h
  obtain ⟨A2, w2, e, hw⟩ := c_slopesBackward hn hok hr E X W w
  refine ⟨_, A2, w2, by rw [e1, e2]; exact e, fun i hi => ?_⟩
  unfold senC
  rw [e1, e2, clamp_n (by omega), clamp_n (by omega), hw (fun _ => 0) i hi, slopes_ag (V2 := fun _ => 0) (S2 := fun _ => 0) hn hok hr]
theorem f_dis {Z : FC} (h : okFo Z) (u1 u2 X : Nat → Int32) : ∃ X2, fX3_findDisagreement (Z.1 0) (Z.1 1) (Z.1 2) (Z.1 3) X Z.2.2.1 Z.2.2.2 u1 u2 = some (disC Z u1 u2, X2) ∧ (disC Z u1 u2 = -1 ∨ ∃ p, p < 60 ∧ disC Z u1 u2 = nI p) := by
  obtain ⟨n, r, hn, hr, e1, e2, hok, hp⟩ := h
  have un : ∀ (u X X2 : Nat → Int32) (m : Nat), m < n → (unev (Z.1 0) (Z.1 1) (Z.1 2) (expTo (Z.1 0) (Z.1 1) (Z.1 2) u n X) m ↔ unev (Z.1 0) (Z.1 1) (Z.1 2) (expTo (Z.1 0) (Z.1 1) (Z.1 2) u n X2) m) := fun u X X2 m hm => by
    unfold unev
    rcases hok m hm with ⟨hk, -⟩ | ⟨hk, -⟩ | ⟨hk, -⟩ | ⟨hk, a, b, ha, hb, hl, hr⟩ | ⟨hk, -⟩
    · rw [hk]; exact ⟨fun q => absurd q.1 (by decide), fun q => absurd q.1 (by decide)⟩
    · rw [hk]; exact ⟨fun q => absurd q.1 (by decide), fun q => absurd q.1 (by decide)⟩
    · rw [hk]; exact ⟨fun q => absurd q.1 (by decide), fun q => absurd q.1 (by decide)⟩
    · rw [hl, hr, clamp_n (by omega), clamp_n (by omega), expTo_agree (X := X) (X2 := X2) hn hok a (by omega), expTo_agree (X := X) (X2 := X2) hn hok b (by omega)]
    · rw [hk]; exact ⟨fun q => absurd q.1 (by decide), fun q => absurd q.1 (by decide)⟩
  have key : ∀ X : Nat → Int32, ∃ (r9 : Int32) (X2 : Nat → Int32), fX3_findDisagreement (Z.1 0) (Z.1 1) (Z.1 2) (Z.1 3) X Z.2.2.1 Z.2.2.2 u1 u2 = some (r9, X2) ∧ isMin (fun p => p < 60 ∧ ((∃ m, m < n ∧ unev (Z.1 0) (Z.1 1) (Z.1 2) (expTo (Z.1 0) (Z.1 1) (Z.1 2) u1 n (fun _ => 0)) m ∧ Z.1 3 m = nI p) ∨ ∃ m, m < n ∧ unev (Z.1 0) (Z.1 1) (Z.1 2) (expTo (Z.1 0) (Z.1 1) (Z.1 2) u2 n (fun _ => 0)) m ∧ Z.1 3 m = nI p)) r9 := fun X => by
    obtain ⟨r9, X2, e, hm⟩ := c_findDisagreement hn hok hp (show r < 60 by omega) X u1 u2
    refine ⟨r9, X2, by rw [e1, e2]; exact e, isMin_congr hm (fun p => and_congr Iff.rfl (or_congr ?_ ?_))⟩
    · exact exists_congr fun m => ⟨fun q => ⟨q.1, (un u1 _ _ m q.1).mp q.2.1, q.2.2⟩, fun q => ⟨q.1, (un u1 _ _ m q.1).mpr q.2.1, q.2.2⟩⟩
    · exact exists_congr fun m => ⟨fun q => ⟨q.1, (un u2 _ _ m q.1).mp q.2.1, q.2.2⟩, fun q => ⟨q.1, (un u2 _ _ m q.1).mpr q.2.1, q.2.2⟩⟩
  obtain ⟨r0, Y0, g0, m0⟩ := key (fun _ => 0)
  obtain ⟨r9, X2, g1, m1⟩ := key X
  have ed : disC Z u1 u2 = r0 := by
    unfold disC
    rw [g0]
  have er : r9 = r0 := isMin_eq m1 m0 (fun _ q => q) (fun p q => ⟨p, Nat.le_refl _, q⟩)
  rw [ed, ← er]
  refine ⟨X2, g1, ?_⟩
  rcases m1 with ⟨a, -⟩ | ⟨p, h1, h2, -⟩
  · exact Or.inl a
  · exact Or.inr ⟨p, h1, h2⟩
theorem f_reckon {Z : FC} (h : okFo Z) (E V C : Nat → Int32) (cv : Nat → Nat → Int32) (bs bc : Nat → Int64) (bv bd : Int64) (X W : Nat → Int64) : ∃ (w2 X2 A2 : Nat → Int64), fX0_reckon bs bc bv bd (Z.1 0) (Z.1 1) (Z.1 2) X W Z.2.2.1 Z.2.2.2 E V C cv = some (w2, conTo w2 V bc 6, varTo (senC Z E) V cv 6, degSum C (partOf (senC Z E) V) (varTo (senC Z E) V cv 6) 6, X2, A2) ∧ ∀ j, j < 6 → partOf w2 V j = partOf (senC Z E) V j := by
  obtain ⟨n, r, hn, hr, e1, e2, hok, -⟩ := h
  obtain ⟨A2, w2, f1, f2⟩ := c_reckon hn hok hr E V C cv bs bc bv bd X W
  have hw : ∀ i, i < 6 → w2 i = senC Z E i := fun i hi => by
    unfold senC
    rw [e1, e2, clamp_n (by omega), clamp_n (by omega), f2 (fun _ => 0) i hi, slopes_ag (V2 := fun _ => 0) (S2 := fun _ => 0) hn hok hr]
  have hp : ∀ j, j < 6 → partOf w2 V j = partOf (senC Z E) V j := fun j hj => by
    unfold partOf
    rw [hw j hj]
  have hv : varTo w2 V cv 6 = varTo (senC Z E) V cv 6 := by
    unfold varTo
    refine sumTo_congr (fun i hi => ?_)
    have e : sumTo (covTerm w2 cv i) i = sumTo (covTerm (senC Z E) cv i) i := sumTo_congr (fun o ho => by
      unfold covTerm
      rw [hw i hi, hw o (by omega)])
    show partOf w2 V i + sumTo (covTerm w2 cv i) i = partOf (senC Z E) V i + sumTo (covTerm (senC Z E) cv i) i
    rw [hp i hi, e]
  refine ⟨w2, valsTo (Z.1 0) (Z.1 1) (Z.1 2) E n X, A2, ?_, hp⟩
  rw [e1, e2, f1, hv, degSum_congr (fun j hj => hp j hj)]
theorem f_fac {n : Nat} {Vd Vf : Nat → Int32} (h : okTb n Vd Vf) (se : Nat → Int64) (Y : TT) (cv : Nat → Nat → Int32) : fX0_factor (degSum (Y 4) (partOf se (Y 1)) (varTo se (Y 1) cv 6) 6) Vd Vf (nI n) = some (facC se Y cv Vd Vf (nI n)) ∧ (-1 ≤ facC se Y cv Vd Vf (nI n) ∧ facC se Y cv Vd Vf (nI n) ≤ 999) := by
  obtain ⟨r, e, hr⟩ := c_factor h (degSum (Y 4) (partOf se (Y 1)) (varTo se (Y 1) cv 6) 6)
  have : facC se Y cv Vd Vf (nI n) = r := by
    unfold facC
    rw [e]
  rw [this]
  exact ⟨e, hr⟩
/-- the same formula, whatever its scratch cells hold -/
def same4 (Z Z' : FC) : Prop := Z'.1 0 = Z.1 0 ∧ Z'.1 1 = Z.1 1 ∧ Z'.1 2 = Z.1 2 ∧ Z'.1 3 = Z.1 3 ∧ Z'.2.2 = Z.2.2
theorem same4_C {Z Z' : FC} (h : same4 Z Z') : (okFo Z → okFo Z') ∧ valC Z' = valC Z ∧ senC Z' = senC Z ∧ disC Z' = disC Z := by
  obtain ⟨h0, h1, h2, h3, h4⟩ := h
  refine ⟨fun q => ?_, ?_, ?_, ?_⟩
  · unfold okFo
    rw [h0, h1, h2, h3, h4]
    exact q
  · funext E
    unfold valC
    rw [h0, h1, h2, h4]
  · funext E j
    unfold senC
    rw [h0, h1, h2, h4]
  · funext u1 u2
    unfold disC
    rw [h0, h1, h2, h3, h4]
def okCv (cv : Nat → Nat → Int32) : Prop := ∀ i j, i < 6 → j < 6 → cv i j = cv j i ∧ -9999 ≤ cv i j ∧ cv i j ≤ 9999
abbrev wIc (k : Nat → ClassId) (a : Nat → Nat) (Y : TT) (G : Nat → Nat → Nat → Int32) : va_W := wI k a (Y 0) (Y 1) (Y 2) (Y 3) (Y 4) (G 0) (Y 5) (Y 6) (G 1)
/-- the book: 0 itself, 1 inputs, 2 line, 3 spare, 4 budget, 5 coverage, 6 chance; the formulas -/
def BW (k : Nat → ClassId) (ad aF : Nat → Nat → Nat) (c : Nat) (Y : TT) (G : Nat → Nat → Nat → Int32) (Ls : Nat → Int32) (len lat : Int32) (S : FC) (X : Nat → FC) (bs bc : Nat → Int64) (bv bd : Int64) (Vd Vf : Nat → Int32) (Vc x : Int32) (dr : Nat → Int32) : va_W :=
  wU k (ad 0) (ad 1 0) (ad 2 0) (ad 3 0) (ad 4 0) (ad 5 0) (ad 6 0) (fRow c aF) dr (nI c) ++ (wIc k (ad 1) Y G ++ (wL k (ad 2) Ls len lat ++ (wFc k (ad 3) S ++ (wB k (ad 4) bs bc bv bd ++ (wV k (ad 5) Vd Vf Vc ++ (wC k (ad 6) x ++ FW k aF X (List.range c)))))))
/-- what is seen of contents that are in order -/
def okAll (o : OBk) (G : Nat → Nat → Nat → Int32) (Ls : Nat → Int32) (X : Nat → FC) (Vd Vf : Nat → Int32) : Prop :=
  oc o ≤ 8 ∧ okIn (oI o) (G 0) ∧ (okCv (ocv o) ∧ ocv o = G 1) ∧ okTb (otn o) Vd Vf ∧ ox o ≤ 65536 ∧ LnK (oln o) (ocd o) Ls ∧
  ∀ i, i < oc o → okFo (X i) ∧ ova o i = valC (X i) (oI o 0) ∧ ose o i = senC (X i) (oI o 0) ∧ ods o i = disC (X i) (oI o 5) (oI o 6) ∧ ofa o i = facC (senC (X i) (oI o 0)) (oI o) (ocv o) Vd Vf (nI (otn o))
def isBk (k : Nat → ClassId) (a0 : Nat) (o : OBk) (wb : va_W) : Prop := ∃ (ad aF : Nat → Nat → Nat) (G : Nat → Nat → Nat → Int32) (Ls : Nat → Int32) (lat : Int32) (S : FC) (X : Nat → FC) (bs bc : Nat → Int64) (bv bd : Int64) (Vd Vf : Nat → Int32) (dr : Nat → Int32),
  ad 0 0 = a0 ∧ wb = BW k ad aF (oc o) (oI o) G Ls (nI (oln o)) lat S X bs bc bv bd Vd Vf (nI (otn o)) (nI (ox o)) dr ∧ okAll o G Ls X Vd Vf
/-- what holds of all that is seen -/
def OFo (o : OBk) : Prop := oc o ≤ 8 ∧ (∀ i, i < 6 → (oI o 2 i = 4 ∧ ∃ c, 1 ≤ c ∧ c ≤ 8 ∧ oI o 4 i = nI c) ∨ (∃ s w, s ≤ 3 ∧ w ≤ 99 ∧ oI o 2 i = nI s ∧ oI o 4 i = 0 ∧ oI o 3 i = nI w)) ∧ okCv (ocv o) ∧ otn o ≤ 12 ∧ ox o ≤ 65536 ∧ oln o ≤ 60 ∧ (∀ a, a < oln o → 32 ≤ ocd o a ∧ ocd o a ≤ 126) ∧ (∀ a, oln o ≤ a → ocd o a = 0) ∧
  ∀ i, i < oc o → (ods o i = -1 ∨ ∃ p, p < 60 ∧ ods o i = nI p) ∧ (-1 ≤ ofa o i ∧ ofa o i ≤ 999)
theorem isBk_OF {k : Nat → ClassId} {a0 : Nat} {o : OBk} {wb : va_W} (h : isBk k a0 o wb) : OFo o := by
  obtain ⟨ad, aF, G, Ls, lat, S, X, bs, bc, bv, bd, Vd, Vf, dr, -, -, hc, hI, ⟨hC, -⟩, hT, hx, hL, hF⟩ := h
  refine ⟨hc, fun i hi => ?_, hC, hT.1, hx, hL.1, fun a ha => ⟨(hL.2.1 a ha).1, (hL.2.1 a ha).2.1⟩, hL.2.2, fun i hi => ?_⟩
  · rcases hI i hi with ⟨h1, c, c1, c2, c3, -⟩ | h
    · exact Or.inl ⟨h1, c, c1, c2, c3⟩
    · exact Or.inr h
  · obtain ⟨f1, -, -, f4, f5⟩ := hF i hi
    obtain ⟨-, -, q⟩ := f_dis f1 (oI o 5) (oI o 6) (fun _ => 0)
    rw [f4, f5]
    exact ⟨q, (f_fac hT _ _ _).2⟩
theorem isBk_head {k : Nat → ClassId} {a0 : Nat} {o : OBk} {wb : va_W} (h : isBk k a0 o wb) : ∃ fs, wb[0]? = some (a0, .inr (6, fs)) := by
  obtain ⟨ad, aF, G, Ls, lat, S, X, bs, bc, bv, bd, Vd, Vf, dr, rfl, rfl, -⟩ := h
  exact ⟨_, rfl⟩
theorem okAll_set {o : OBk} {G : Nat → Nat → Nat → Int32} {Ls : Nat → Int32} {X : Nat → FC} {Vd Vf : Nat → Int32} (h : okAll o G Ls X Vd Vf) {i : Nat} {Z : FC} (hz : same4 (X i) Z) : okAll o G Ls (setF X i Z) Vd Vf := by
  obtain ⟨hc, hI, hC, hT, hx, hL, hF⟩ := h
  refine ⟨hc, hI, hC, hT, hx, hL, fun j hj => ?_⟩
  unfold setF
  by_cases e : j = i
  · subst e
    rw [if_pos rfl]
    obtain ⟨s1, s2, s3, s4⟩ := same4_C hz
    obtain ⟨f1, f2, f3, f4, f5⟩ := hF j hj
    rw [s2, s3, s4]
    exact ⟨s1 f1, f2, f3, f4, f5⟩
  · rw [if_neg e]
    exact hF j hj
