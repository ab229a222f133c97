/-! ===== each query of a model: both sides answer alike ===== -/
theorem isM (v : Int32) {c : Nat} (hc : c ≤ 8) : (∃ i, i < c ∧ v = nI i ∧ fX7_isModel v (nI c) = some 1) ∨ ((v < 0 ∨ nI c ≤ v) ∧ fX7_isModel v (nI c) = some 0) := by
  have e : (nI c - 1).toInt = (c : Int) - 1 := by
    cases c with
    | zero => decide +kernel
    | succ n =>
      rw [nI_pred, nI_toInt (by omega)]
      omega
  rcases pk_ix v (n := c) (by omega) with h | h | ⟨j, hj, rfl⟩
  · exact Or.inr ⟨Or.inl h, by rw [isModel_eq, if_pos (Or.inl h)]⟩
  · refine Or.inr ⟨Or.inr h, ?_⟩
    rw [le_i, nI_toInt (by omega)] at h
    rw [isModel_eq, if_pos (Or.inr ((lt_i _ _).mpr (by omega)))]
  · refine Or.inl ⟨j, hj, rfl, ?_⟩
    rw [isModel_eq, if_neg (fun q => ?_)]
    rcases q with q | q
    · exact nI_pos (by omega) q
    · rw [lt_i, nI_toInt (by omega)] at q
      omega
theorem isI (v : Int32) : (∃ i, i < 6 ∧ v = nI i ∧ fX7_isInput v = some 1) ∨ ((v < 0 ∨ 5 < v) ∧ (v < 0 ∨ ¬ v < 6) ∧ fX7_isInput v = some 0) := by
  have z5 : (5 : Int32).toInt = 5 := by decide
  have z6 : (6 : Int32).toInt = 6 := by decide
  rcases pk_ix v (n := 6) (by omega) with h | h | ⟨j, hj, rfl⟩
  · exact Or.inr ⟨Or.inl h, Or.inl h, by rw [isInput_eq, if_pos (Or.inl h)]⟩
  · rw [le_i, nI_toInt (by omega)] at h
    have h1 : 5 < v := (lt_i _ _).mpr (by omega)
    have h2 : ¬ v < 6 := fun q => by
      rw [lt_i] at q
      omega
    exact Or.inr ⟨Or.inr h1, Or.inr h2, by rw [isInput_eq, if_pos (Or.inr h1)]⟩
  · exact Or.inl ⟨j, hj, rfl, by rw [isInput_eq, if_neg (in_n hj)]⟩
theorem n10 : ¬ (1 : Int32) = 0 := by decide
theorem n20 : ¬ (2 : Int32) = 0 := by decide
/-- rows over two lists of inputs that agree are worth the same at every place -/
theorem slopes_u {K L R u w : Nat → Int32} (hu : ∀ i, i < 6 → u i = w i) {i : Int32} {V V2 S S2 : Nat → Int64} {n : Nat} (hn : n ≤ 60) (h : ∀ j, j < n → rowOK j (K j) (L j) (R j)) {j : Nat} (hj : j < n) : slopesTo K L R i (valsTo K L R u n V) n S j = slopesTo K L R i (valsTo K L R w n V2) n S2 j :=
  slopesTo_agree hn h (fun j q => valsTo_u hu hn h j q) j hj
section Qs
variable {i n rt ns c : Nat} {K L R PL MK MO MT form root un u1 u2 sg MP ML MR E V S C mE mV mS mM mW mR drawn : Nat → Int32}
theorem m_disagrees_out {v m : Int32} (h : fX7_isModel v m = some 0) (Y : Nat → Int32) (T : Int32) : fX7_disagrees v un form MK MO MT sg MP ML MR Y T m = some (0, Y, 1) := by
  unfold fX7_disagrees
  rw [h, bnd1_s, if_pos rfl]
  unfold BX7_disagrees_14
  rw [holds_eq, bnd2_s, if_neg n10, if_pos rfl]
theorem q_disagrees (hc : c ≤ 8) (hi : i < c) (hM : fX7_isModel (nI i) (nI c) = some 1) (hn : n ≤ 60) (hns : ns ≤ 60) (hrt : rt < n) (h : RowsRel n (64 * i) K L R MK MO MT) (hf : form i = nI n) (hs : sg i = nI ns) (hS : SignsRel n ns (64 * i) K L R PL ML MR MP) (hu : URel u1 u2 un) (X Y : Nat → Int32) (T : Int32) :
    ∃ (r : Int32) (X2 Y2 : Nat → Int32), fX3_findDisagreement K L R PL X (nI n) (nI rt) u1 u2 = some (r, X2) ∧ fX7_disagrees (nI i) un form MK MO MT sg MP ML MR Y T (nI c) = some (r, Y2, 0) := by
  obtain ⟨r, X2, Y2, e1, e2, -⟩ := disagree_same (show i < 9 by omega) hn hns (show rt < 60 by omega) h hf hs hS (fun j hj => (hu j hj).1) (fun j hj => (hu j hj).2) X Y
  refine ⟨r, X2, Y2, e1, ?_⟩
  unfold fX7_disagrees
  rw [hM, bnd1_s, if_neg n10]
  unfold BX7_disagrees_14
  rw [holds_eq, bnd2_s, if_pos rfl, if_neg n10, e2, bnd2_s]
theorem m_unitOf_out {v m : Int32} (h : fX7_isModel v m = some 0) (v2 : Int32) (Y : Nat → Int32) (T : Int32) : fX7_unitOf v v2 un form root MK MO MT Y T m = some (0, Y, 1) := by
  unfold fX7_unitOf
  rw [h, bnd1_s, if_pos rfl]
  unfold BX7_unitOf_14
  rw [holds_eq, bnd2_s, if_neg n10, if_pos rfl]
theorem q_unitOf33 {s : Nat} (hs : s < 2) (hc : i < 8) (hn : n ≤ 60) (hrt : rt < n) (h : RowsRel n (64 * i) K L R MK MO MT) (hf : form i = nI n) (hr : root i = nI rt) {u : Nat → Int32} (hu : ∀ j, j < 6 → u j = un (2 * j + s)) (m v2 : Int32) (X Y : Nat → Int32) (T : Int32) :
    ∃ (r : Int32) (X2 Y2 : Nat → Int32), fX3_exponentBy K L R X (nI n) (nI rt) u = some (r, X2) ∧ BX7_unitOf_33 un form root MK MO MT m (nI i) v2 (nI i) (nI s) Y T = some (r, Y2, T) := by
  have hok : ∀ j, j < n → rowOK j (K j) (L j) (R j) := fun j hj => (h j hj).1
  refine ⟨_, _, expTo K L R u n Y, c_exponentBy hn hok (by omega) u X, ?_⟩
  unfold BX7_unitOf_33
  rw [m_laysExponents (show i < 9 by omega) hn hs h hf hu Y, bnd1_s, gi_n (show i < 9 by omega) (by omega), clamp_n (show i < 2 ^ 31 by omega), hr, gi_n (show rt < 64 by omega) (by omega), clamp_n (show rt < 2 ^ 31 by omega), expTo_agree (u := u) (X := Y) (X2 := X) hn hok rt hrt]
theorem q_unitOf (hc : c ≤ 8) (hi : i < c) (hM : fX7_isModel (nI i) (nI c) = some 1) (hn : n ≤ 60) (hrt : rt < n) (h : RowsRel n (64 * i) K L R MK MO MT) (hf : form i = nI n) (hr : root i = nI rt) (hu : URel u1 u2 un) (v2 : Int32) (X Y : Nat → Int32) (T : Int32) :
    ∃ (r : Int32) (X2 Y2 : Nat → Int32), (if v2 = 0 then fX3_exponentBy K L R X (nI n) (nI rt) u1 else fX3_exponentBy K L R X (nI n) (nI rt) u2) = some (r, X2) ∧ fX7_unitOf (nI i) v2 un form root MK MO MT Y T (nI c) = some (r, Y2, 0) := by
  by_cases hv : v2 = 0
  · obtain ⟨r, X2, Y2, e1, e2⟩ := q_unitOf33 (s := 0) (by omega) (show i < 8 by omega) hn hrt h hf hr (fun j hj => (hu j hj).1) (nI c) v2 X Y 0
    refine ⟨r, X2, Y2, by rw [if_pos hv]; exact e1, ?_⟩
    unfold fX7_unitOf
    rw [hM, bnd1_s, if_neg n10]
    unfold BX7_unitOf_14
    rw [holds_eq, bnd2_s, if_pos rfl, if_neg n10, if_pos hv]
    exact e2
  · obtain ⟨r, X2, Y2, e1, e2⟩ := q_unitOf33 (s := 1) (by omega) (show i < 8 by omega) hn hrt h hf hr (fun j hj => (hu j hj).2) (nI c) v2 X Y 0
    refine ⟨r, X2, Y2, by rw [if_neg hv]; exact e1, ?_⟩
    unfold fX7_unitOf
    rw [hM, bnd1_s, if_neg n10]
    unfold BX7_unitOf_14
    rw [holds_eq, bnd2_s, if_pos rfl, if_neg n10, if_neg hv]
    exact e2
theorem m_value_out {v m : Int32} (h : fX7_isModel v m = some 0) (Y : Nat → Int64) (T : Int32) : fX7_value v mE form root MK MO MT Y drawn T m = some (0, Y, 1) := by
  unfold fX7_value
  rw [h, bnd1_s, if_pos rfl]
  unfold BX7_value_14
  rw [holds_eq, bnd2_s, if_neg n10, if_pos rfl]
theorem q_value (hc : c ≤ 8) (hi : i < c) (hM : fX7_isModel (nI i) (nI c) = some 1) (hn : n ≤ 60) (hrt : rt < n) (h : RowsRel n (64 * i) K L R MK MO MT) (hf : form i = nI n) (hr : root i = nI rt) (hA : ARel E V S C mE mV mS mM) (X Y : Nat → Int64) (T : Int32) :
    ∃ (r : Int64) (X2 Y2 : Nat → Int64), fX3_reckonBy K L R X (nI n) (nI rt) E = some (r, X2) ∧ fX7_value (nI i) mE form root MK MO MT Y drawn T (nI c) = some (r, Y2, 0) := by
  have hok : ∀ j, j < n → rowOK j (K j) (L j) (R j) := fun j hj => (h j hj).1
  refine ⟨_, _, valsTo K L R mE n Y, c_reckonBy hn hok (by omega) E X, ?_⟩
  unfold fX7_value
  rw [hM, bnd1_s, if_neg n10]
  unfold BX7_value_14
  rw [holds_eq, bnd2_s, if_pos rfl, if_neg n10, m_values (u := mE) (show i < 9 by omega) hn (show rt < 60 by omega) h hf hr (if_pos rfl).symm Y, bnd2_s, valsTo_u (V := Y) (V2 := X) (fun j hj => (hA j hj).1) hn hok rt hrt]
theorem m_sens_21 (s : Int32) (hs : ¬ s = 0) (m v v2 : Int32) (Y Z : Nat → Int64) (T : Int32) : BX7_sensitivity_21 mE form root MK MO MT drawn m v v2 s Y Z T = some (0, Y, Z, s) := by
  unfold BX7_sensitivity_21
  rw [holds_eq, bnd2_s, if_neg hs, if_pos rfl]
theorem m_sens_out {v m : Int32} (h : fX7_isModel v m = some 0) (v2 : Int32) (Y Z : Nat → Int64) (T : Int32) : fX7_sensitivity v v2 mE form root MK MO MT Y Z drawn T m = some (0, Y, Z, 1) := by
  unfold fX7_sensitivity
  rw [h, bnd1_s, if_pos rfl]
  exact m_sens_21 1 n10 m v v2 Y Z T
theorem m_sens_bad {v m v2 : Int32} (h : fX7_isModel v m = some 1) (h2 : fX7_isInput v2 = some 0) (Y Z : Nat → Int64) (T : Int32) : fX7_sensitivity v v2 mE form root MK MO MT Y Z drawn T m = some (0, Y, Z, 1) := by
  unfold fX7_sensitivity
  rw [h, bnd1_s, if_neg n10, h2, bnd1_s, if_pos rfl]
  exact m_sens_21 1 n10 m v v2 Y Z T
theorem q_sens {j : Nat} (hj : j < 6) (hI : fX7_isInput (nI j) = some 1) (hc : c ≤ 8) (hi : i < c) (hM : fX7_isModel (nI i) (nI c) = some 1) (hn : n ≤ 60) (hrt : rt < n) (h : RowsRel n (64 * i) K L R MK MO MT) (hf : form i = nI n) (hr : root i = nI rt) (hA : ARel E V S C mE mV mS mM) (X W Y Z : Nat → Int64) (T : Int32) :
    ∃ (r : Int64) (X2 W2 Y2 Z2 : Nat → Int64), fX3_slopeForward (nI j) K L R X W (nI n) (nI rt) E = some (r, X2, W2) ∧ (∀ S' X', slopesTo K L R (nI j) (valsTo K L R E n X') n S' rt = r) ∧ fX7_sensitivity (nI i) (nI j) mE form root MK MO MT Y Z drawn T (nI c) = some (r, Y2, Z2, 0) := by
  have hok : ∀ j, j < n → rowOK j (K j) (L j) (R j) := fun j hj => (h j hj).1
  refine ⟨_, _, _, valsTo K L R mE n Y, slopesTo K L R (nI j) (valsTo K L R mE n Y) n Z, c_slopeForward hn hok (by omega) (nI j) E X W, fun S' X' => slopes_u (fun _ _ => rfl) hn hok hrt, ?_⟩
  unfold fX7_sensitivity
  rw [hM, bnd1_s, if_neg n10, hI, bnd1_s, if_neg n10]
  unfold BX7_sensitivity_21
  rw [holds_eq, bnd2_s, if_pos rfl, if_neg n10, m_values (u := mE) (show i < 9 by omega) hn (show rt < 60 by omega) h hf hr (if_pos rfl).symm Y, bnd2_s, m_slopeOf (show i < 9 by omega) hn (show rt < 60 by omega) h hf hr (nI j) _ Z, bnd2_s, slopes_u (V := Y) (V2 := X) (S := Z) (S2 := W) (fun j hj => (hA j hj).1) hn hok hrt]
theorem m_sensA {v v2 m : Int32} {a : Int64} {b c' : Nat → Int64} {d : Int32} {Y Z : Nat → Int64} {T : Int32} (h : fX7_sensitivity v v2 mE form root MK MO MT Y Z drawn T m = some (a, b, c', d)) : fX7_sensitivityAnew v v2 mE form root MK MO MT Y Z drawn T m = some (a, b, c', d) := by
  unfold fX7_sensitivityAnew
  rw [h, bnd4_s]
/-! ===== budgets ===== -/
theorem degSum_c2 {C C' : Nat → Int32} {P Q : Nat → Int64} {W : Int64} : ∀ {n : Nat}, (∀ i, i < n → C i = C' i ∧ P i = Q i) → degSum C P W n = degSum C' Q W n
  | 0, _ => rfl
  | n + 1, h => by
    have ih := degSum_c2 (W := W) (n := n) (fun i hi => h i (by omega))
    obtain ⟨e1, e2⟩ := h n (by omega)
    have e3 : degOf C n = degOf C' n := by
      unfold degOf
      rw [e1]
    show (if degOf C n ≤ 0 then degSum C P W n else degSum C P W n + shareAt (P n) W * shareAt (P n) W / (degOf C n).toInt64) = if degOf C' n ≤ 0 then degSum C' Q W n else degSum C' Q W n + shareAt (Q n) W * shareAt (Q n) W / (degOf C' n).toInt64
    rw [ih, e2, e3]
theorem varTo_w {w w' : Nat → Int64} (hw : ∀ i, i < 6 → w i = w' i) (va : Nat → Int32) (cv : Nat → Nat → Int32) : varTo w va cv 6 = varTo w' va cv 6 := by
  unfold varTo
  refine sumTo_congr (fun i hi => ?_)
  have e : sumTo (covTerm w cv i) i = sumTo (covTerm w' cv i) i := sumTo_congr (fun o ho => by
    unfold covTerm
    rw [hw i hi, hw o (by omega)])
  show partOf w va i + sumTo (covTerm w cv i) i = partOf w' va i + sumTo (covTerm w' cv i) i
  unfold partOf
  rw [e, hw i hi]
/-- what both sides reckon of a model -/
theorem q_reckon (hi : i < 8) (hn : n ≤ 60) (hrt : rt < n) (h : RowsRel n (64 * i) K L R MK MO MT) (hf : form i = nI n) (hr : root i = nI rt) (hA : ARel E V S C mE mV mS mM) {CV : Nat → Nat → Int32} {mC : Nat → Int32} (hC : CRel CV mC) (bs bc : Nat → Int64) (bv bd : Int64) (X W Y Z Q : Nat → Int64) :
    ∃ (w2 A2 Y2 Z2 W2 : Nat → Int64) (Vv : Int64), fX0_reckon bs bc bv bd K L R X W (nI n) (nI rt) E V C CV = some (w2, conTo w2 V bc 6, Vv, degSum mM (partOf W2 mV) Vv 6, valsTo K L R E n X, A2) ∧ fX7_laysSlopes (nI i) mE form root MK MO MT Y Z drawn Q = some (Y2, Z2, W2) ∧ fX7_varianceOf mV mC W2 = some Vv ∧ ∀ j, j < 6 → partOf w2 V j = partOf W2 mV j := by
  have hok : ∀ j, j < n → rowOK j (K j) (L j) (R j) := fun j hj => (h j hj).1
  obtain ⟨A2, w2, e1, e2⟩ := c_reckon hn hok hrt E V C CV bs bc bv bd X W
  obtain ⟨Z2, W2, f1, f2⟩ := m_laysSlopes (drawn := drawn) (est := mE) (show i < 9 by omega) hn hrt h hf hr Y Z Q
  have hw : ∀ j, j < 6 → w2 j = W2 j := fun j hj => by
    rw [e2 (fun _ => 0) j hj, f2 (fun _ => 0) j hj]
    exact (slopes_u (fun j hj => (hA j hj).1) hn hok hrt).symm
  have hp : ∀ j, j < 6 → partOf w2 V j = partOf W2 mV j := fun j hj => by
    unfold partOf
    rw [hw j hj, (hA j hj).2.1]
  have hv : varTo w2 V CV 6 = varToM W2 mV mC 6 := by
    rw [varTo_w hw]
    refine var_same (fun j hj => (hA j hj).2.1.symm) (fun a o ho ha => ?_)
    rw [(hC a o ha (by omega)).2]
    exact (hC o a (by omega) ha).1
  refine ⟨w2, A2, _, Z2, W2, varToM W2 mV mC 6, ?_, f1, m_varianceOf mV mC W2, hp⟩
  rw [e1, hv, degSum_c2 (C' := mM) (Q := partOf W2 mV) (fun j hj => ⟨((hA j hj).2.2.2).symm, hp j hj⟩)]
theorem m_budget_27 (s : Int32) (hs : ¬ s = 0) (va mC fr fa : Nat → Int32) (m ro v v2 : Int32) (Y Z Q : Nat → Int64) (T : Int32) : BX7_budget_27 mE mS mM va mC form root MK MO MT drawn fr fa m ro v v2 s Y Z Q T = some (0, Y, Z, Q, s) := by
  unfold BX7_budget_27
  rw [holds_eq, bnd2_s, if_neg hs, if_pos rfl]
theorem m_budget_out {v m : Int32} (h : fX7_isModel v m = some 0) (v2 : Int32) (va mC fr fa : Nat → Int32) (ro : Int32) (Y Z Q : Nat → Int64) (T : Int32) : fX7_budget v v2 mE mS mM va mC form root MK MO MT Y Z drawn Q fr fa T m ro = some (0, Y, Z, Q, 1) := by
  unfold fX7_budget
  rw [h, bnd1_s, if_pos rfl]
  exact m_budget_27 1 n10 va mC fr fa m ro v v2 Y Z Q T
theorem m_budget_bad {v m v2 : Int32} (h : fX7_isModel v m = some 1) (h2 : v2 < 0 ∨ 4 < v2) (va mC fr fa : Nat → Int32) (ro : Int32) (Y Z Q : Nat → Int64) (T : Int32) : fX7_budget v v2 mE mS mM va mC form root MK MO MT Y Z drawn Q fr fa T m ro = some (0, Y, Z, Q, 2) := by
  unfold fX7_budget
  rw [h, bnd1_s, if_neg n10, isIn_eq, if_pos h2, bnd1_s, if_pos rfl]
  exact m_budget_27 2 n20 va mC fr fa m ro v v2 Y Z Q T
theorem five {v : Int32} (h : ¬ (v < 0 ∨ 4 < v)) : v = 0 ∨ v = 1 ∨ v = 2 ∨ v = 3 ∨ v = 4 := by
  obtain ⟨j, hj, rfl⟩ := ix_of (hi := 4) (n := 4) (by decide) (fun q => h (Or.inl q)) (fun q => h (Or.inr q)) (by omega)
  rcases (show j = 0 ∨ j = 1 ∨ j = 2 ∨ j = 3 ∨ j = 4 by omega) with rfl | rfl | rfl | rfl | rfl
  · exact Or.inl rfl
  · exact Or.inr (Or.inl rfl)
  · exact Or.inr (Or.inr (Or.inl rfl))
  · exact Or.inr (Or.inr (Or.inr (Or.inl rfl)))
  · exact Or.inr (Or.inr (Or.inr (Or.inr rfl)))
/-- what the book's budget answers, of what it has reckoned -/
def bAns (v2 : Int32) (Vv Dd : Int64) (D F : Nat → Int32) (cn : Int32) : Option Int64 := if v2 = 0 then some Vv else if v2 = 1 then fX0_doubt Vv else if v2 = 2 then fX0_degrees Dd else if v2 = 3 then bnd1 (fX0_factor Dd D F cn) (fun r => some r.toInt64) else fX0_statedDoubt Vv Dd D F cn
theorem q_budget {v2 : Int32} (h2 : ¬ (v2 < 0 ∨ 4 < v2)) (hc : c ≤ 8) (hi : i < c) (hM : fX7_isModel (nI i) (nI c) = some 1) (hn : n ≤ 60) (hrt : rt < n) (h : RowsRel n (64 * i) K L R MK MO MT) (hf : form i = nI n) (hr : root i = nI rt) (hA : ARel E V S C mE mV mS mM) (hSc : sortCnt mS mM) {CV : Nat → Nat → Int32} {mC : Nat → Int32} (hC : CRel CV mC) {D F fr fa : Nat → Int32} {tn : Nat} (hT : TabRel tn D F fr fa) (bs bc : Nat → Int64) (bv bd : Int64) (X W Y Z Q : Nat → Int64) (T : Int32) :
    ∃ (w2 A2 Y2 Z2 W2 : Nat → Int64) (Vv Dd r : Int64), fX0_reckon bs bc bv bd K L R X W (nI n) (nI rt) E V C CV = some (w2, conTo w2 V bc 6, Vv, Dd, valsTo K L R E n X, A2) ∧ bAns v2 Vv Dd D F (nI tn) = some r ∧ fX7_budget (nI i) v2 mE mS mM mV mC form root MK MO MT Y Z drawn Q fr fa T (nI c) (nI tn) = some (r, Y2, Z2, W2, 0) := by
  obtain ⟨w2, A2, Y2, Z2, W2, Vv, e1, e2, e3, -⟩ := q_reckon (drawn := drawn) (show i < 8 by omega) hn hrt h hf hr hA hC bs bc bv bd X W Y Z Q
  have hb : fX7_budget (nI i) v2 mE mS mM mV mC form root MK MO MT Y Z drawn Q fr fa T (nI c) (nI tn) = BX7_budget_27 mE mS mM mV mC form root MK MO MT drawn fr fa (nI c) (nI tn) (nI i) v2 0 Y Z Q T := by
    unfold fX7_budget
    rw [hM, bnd1_s, if_neg n10, isIn_eq, if_neg h2, bnd1_s, if_neg n10]
  rw [hb]
  unfold BX7_budget_27
  rw [holds_eq, bnd2_s, if_pos rfl, if_neg n10, e2, bnd3_s, e3, bnd1_s]
  rcases five h2 with rfl | rfl | rfl | rfl | rfl
  · exact ⟨w2, A2, Y2, Z2, W2, Vv, _, Vv, e1, rfl, rfl⟩
  · obtain ⟨r, d1, d2⟩ := doubt_same Vv
    refine ⟨w2, A2, Y2, Z2, W2, Vv, _, r, e1, d1, ?_⟩
    rw [if_neg (show ¬ (2 : Int32) ≤ 1 by decide), if_neg (show ¬ (1 : Int32) = 0 by decide), d2, bnd1_s]
  · refine ⟨w2, A2, Y2, Z2, W2, Vv, _, _, e1, c_degrees _, ?_⟩
    rw [if_pos (show (2 : Int32) ≤ 2 by decide), if_pos rfl, m_degrees hSc, bnd1_s]
  · obtain ⟨r, g1, g2⟩ := factor_same hT (degSum mM (partOf W2 mV) Vv 6)
    refine ⟨w2, A2, Y2, Z2, W2, Vv, _, r.toInt64, e1, ?_, ?_⟩
    · show bnd1 _ _ = _
      rw [g1, bnd1_s]
    · rw [if_pos (show (2 : Int32) ≤ 3 by decide), if_neg (show ¬ (3 : Int32) = 2 by decide), if_pos rfl, m_degrees hSc, bnd1_s, m_hasNone hSc, bnd1_s, g2, bnd1_s]
  · obtain ⟨r, g1, g2⟩ := stated_same hT hSc mV W2 Vv
    refine ⟨w2, A2, Y2, Z2, W2, Vv, _, r, e1, g1, ?_⟩
    rw [if_pos (show (2 : Int32) ≤ 4 by decide), if_neg (show ¬ (4 : Int32) = 2 by decide), if_neg (show ¬ (4 : Int32) = 3 by decide), g2, bnd1_s]
theorem m_contr_21 (s : Int32) (hs : ¬ s = 0) (va mC : Nat → Int32) (m v v2 v3 : Int32) (Y Z Q : Nat → Int64) (T : Int32) : BX7_contribution_21 mE va mC form root MK MO MT drawn m v v2 v3 s Y Z Q T = some (0, Y, Z, Q, s) := by
  unfold BX7_contribution_21
  rw [holds_eq, bnd2_s, if_neg hs, if_pos rfl]
theorem m_contr_out {v m : Int32} (h : fX7_isModel v m = some 0) (v2 v3 : Int32) (va mC : Nat → Int32) (Y Z Q : Nat → Int64) (T : Int32) : fX7_contribution v v2 v3 mE va mC form root MK MO MT Y Z drawn Q T m = some (0, Y, Z, Q, 1) := by
  unfold fX7_contribution
  rw [h, bnd1_s, if_pos rfl]
  exact m_contr_21 1 n10 va mC m v v2 v3 Y Z Q T
theorem m_contr_bad {v m v2 : Int32} (h : fX7_isModel v m = some 1) (h2 : fX7_isInput v2 = some 0) (v3 : Int32) (va mC : Nat → Int32) (Y Z Q : Nat → Int64) (T : Int32) : fX7_contribution v v2 v3 mE va mC form root MK MO MT Y Z drawn Q T m = some (0, Y, Z, Q, 1) := by
  unfold fX7_contribution
  rw [h, bnd1_s, if_neg n10, h2, bnd1_s, if_pos rfl]
  exact m_contr_21 1 n10 va mC m v v2 v3 Y Z Q T
theorem q_contr {j : Nat} (hj : j < 6) (hI : fX7_isInput (nI j) = some 1) (v3 : Int32) (hc : c ≤ 8) (hi : i < c) (hM : fX7_isModel (nI i) (nI c) = some 1) (hn : n ≤ 60) (hrt : rt < n) (h : RowsRel n (64 * i) K L R MK MO MT) (hf : form i = nI n) (hr : root i = nI rt) (hA : ARel E V S C mE mV mS mM) {CV : Nat → Nat → Int32} {mC : Nat → Int32} (hC : CRel CV mC) (bs bc : Nat → Int64) (bv bd : Int64) (X W Y Z Q : Nat → Int64) (T : Int32) :
    ∃ (w2 A2 Y2 Z2 W2 : Nat → Int64) (Vv Dd r : Int64), fX0_reckon bs bc bv bd K L R X W (nI n) (nI rt) E V C CV = some (w2, conTo w2 V bc 6, Vv, Dd, valsTo K L R E n X, A2) ∧ (if v3 = 0 then some (conTo w2 V bc 6 j) else fX0_shareOf (nI j) (conTo w2 V bc 6) Vv) = some r ∧ fX7_contribution (nI i) (nI j) v3 mE mV mC form root MK MO MT Y Z drawn Q T (nI c) = some (r, Y2, Z2, W2, 0) := by
  obtain ⟨w2, A2, Y2, Z2, W2, Vv, e1, e2, e3, e4⟩ := q_reckon (drawn := drawn) (show i < 8 by omega) hn hrt h hf hr hA hC bs bc bv bd X W Y Z Q
  have hb : fX7_contribution (nI i) (nI j) v3 mE mV mC form root MK MO MT Y Z drawn Q T (nI c) = BX7_contribution_21 mE mV mC form root MK MO MT drawn (nI c) (nI i) (nI j) v3 0 Y Z Q T := by
    unfold fX7_contribution
    rw [hM, bnd1_s, if_neg n10, hI, bnd1_s, if_neg n10]
  rw [hb]
  unfold BX7_contribution_21
  rw [holds_eq, bnd2_s, if_pos rfl, if_neg n10, e2, bnd3_s]
  by_cases hv : v3 = 0
  · refine ⟨w2, A2, Y2, Z2, W2, Vv, _, partOf W2 mV j, e1, ?_, ?_⟩
    · rw [if_pos hv, conTo_lt hj, e4 j hj]
    · rw [if_pos hv, m_part hj, bnd1_s]
  · refine ⟨w2, A2, Y2, Z2, W2, Vv, _, shareAt (partOf W2 mV j) Vv, e1, ?_, ?_⟩
    · rw [if_neg hv, c_shareOf hj, conTo_lt hj, e4 j hj]
    · rw [if_neg hv, e3, bnd1_s, m_shareOf hj, bnd1_s]
theorem m_ranked_18 (s : Int32) (hs : ¬ s = 0) (va : Nat → Int32) (m v v2 : Int32) (Y Z Q : Nat → Int64) (T : Int32) : BX7_ranked_18 mE va form root MK MO MT drawn m v v2 s Y Z Q T = some (0, Y, Z, Q, s) := by
  unfold BX7_ranked_18
  rw [holds_eq, bnd2_s, if_neg hs, if_pos rfl]
theorem m_ranked_out {v m : Int32} (h : fX7_isModel v m = some 0) (v2 : Int32) (va : Nat → Int32) (Y Z Q : Nat → Int64) (T : Int32) : fX7_ranked v v2 mE va form root MK MO MT Y Z drawn Q T m = some (0, Y, Z, Q, 1) := by
  unfold fX7_ranked
  rw [h, bnd1_s, if_pos rfl]
  exact m_ranked_18 1 n10 va m v v2 Y Z Q T
theorem m_ranked_bad {v m v2 : Int32} (h : fX7_isModel v m = some 1) (h2 : v2 < 0) (va : Nat → Int32) (Y Z Q : Nat → Int64) (T : Int32) : fX7_ranked v v2 mE va form root MK MO MT Y Z drawn Q T m = some (0, Y, Z, Q, 1) := by
  unfold fX7_ranked
  rw [h, bnd1_s, if_neg n10, if_pos h2]
  exact m_ranked_18 1 n10 va m v v2 Y Z Q T
theorem q_ranked {v2 : Int32} (h2 : ¬ v2 < 0) (hc : c ≤ 8) (hi : i < c) (hM : fX7_isModel (nI i) (nI c) = some 1) (hn : n ≤ 60) (hrt : rt < n) (h : RowsRel n (64 * i) K L R MK MO MT) (hf : form i = nI n) (hr : root i = nI rt) (hA : ARel E V S C mE mV mS mM) {CV : Nat → Nat → Int32} {mC : Nat → Int32} (hC : CRel CV mC) (bs bc : Nat → Int64) (bv bd : Int64) (X W Y Z Q : Nat → Int64) (T : Int32) :
    ∃ (w2 A2 Y2 Z2 W2 : Nat → Int64) (Vv Dd : Int64) (r : Int32), fX0_reckon bs bc bv bd K L R X W (nI n) (nI rt) E V C CV = some (w2, conTo w2 V bc 6, Vv, Dd, valsTo K L R E n X, A2) ∧ fX0_inputAtRank v2 (conTo w2 V bc 6) = some r ∧ fX7_ranked (nI i) v2 mE mV form root MK MO MT Y Z drawn Q T (nI c) = some (r, Y2, Z2, W2, 0) := by
  obtain ⟨w2, A2, Y2, Z2, W2, Vv, e1, e2, -, e4⟩ := q_reckon (drawn := drawn) (show i < 8 by omega) hn hrt h hf hr hA hC bs bc bv bd X W Y Z Q
  obtain ⟨r, g1, g2⟩ := atRank_loop (va := mV) (W := W2) (P := conTo w2 V bc 6) (fun j hj => by rw [conTo_lt hj, e4 j hj]) mE form root MK MO MT drawn (nI c) (nI i) v2 Y2 Z2 0 1000 0 (by omega) (by omega)
  refine ⟨w2, A2, Y2, Z2, W2, Vv, _, r, e1, g1, ?_⟩
  unfold fX7_ranked
  rw [hM, bnd1_s, if_neg n10, if_neg h2]
  unfold BX7_ranked_18
  rw [holds_eq, bnd2_s, if_pos rfl, if_neg n10, e2, bnd3_s]
  exact g2
end Qs
