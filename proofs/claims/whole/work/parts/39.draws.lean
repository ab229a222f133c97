/-! ===== draws: both sides ===== -/
theorem add0 (x : Int32) : x + 0 = x := Int32.add_zero x
/-- the six draws of one time, for whatever follows them -/
theorem drawn_loop2 {E V S W C mE mV mS mW mM mR : Nat → Int32} {RD : Nat → Nat → Int32} (hA : ARel E V S C mE mV mS mM) (hS : SRel S W C mW mR RD) (va mC form root MK MO MT fr fa : Nat → Int32) (models rows v1 v2 : Int32) :
    ∀ (f j k : Nat) (u w : Nat → Int32), j ≤ 6 → 6 - j < f → k ≤ 65536 → (∀ i, i < j → u i = w i) →
      ∃ (k' : Nat) (u' w' : Nat → Int32), k' ≤ 65536 ∧ (∀ i, i < 6 → u' i = w' i) ∧ (∀ E1, LX4_drawInto_2 E S W C RD E1 f (nI j) u (nI k) = E1 u' (nI k')) ∧
        ∀ E2 v3 v5 v7 v8 V1 V2 V3 T, LX7_draw_73 mE mS mW mM mR va mC form root MK MO MT fr fa models rows v1 v2 E2 f v3 v5 v7 v8 (nI j) V1 V2 w V3 T (nI k) = E2 v3 v5 v7 v8 V1 V2 w' V3 T (nI k')
  | 0, j, _, _, _, _, q, _, _ => absurd q (Nat.not_lt_zero _)
  | f + 1, j, k, u, w, hj, q, hk, hu => by
    by_cases hc : 6 ≤ j
    · have : j = 6 := by omega
      subst this
      exact ⟨k, u, w, hk, hu, fun E1 => by rw [LX4_drawInto_2, if_pos (by decide)], fun E2 v3 v5 v7 v8 V1 V2 V3 T => by rw [LX7_draw_73, if_pos (by decide)]⟩
    · have hq : ¬ (6 : Int32) ≤ nI j := fun q => hc ((nI_leI (a := 6) (by omega) (by omega)).mp q)
      obtain ⟨r, k', k1, e1, e2⟩ := drawOf_same (show j < 6 by omega) hA hS hk
      obtain ⟨k2, u', w', k3, h1, g1, g2⟩ := drawn_loop2 hA hS va mC form root MK MO MT fr fa models rows v1 v2 f (j + 1) k' (upd u j r) (upd w j r) (by omega) (by omega) k1 (fun i hi => by
        rw [upd_at, upd_at]
        by_cases y : i = j
        · rw [if_pos y, if_pos y]
        · rw [if_neg y, if_neg y]
          exact hu i (by omega))
      exact ⟨k2, u', w', k3, h1, fun E1 => by rw [LX4_drawInto_2, if_neg hq, e1, bnd2_s, gi_n (show j < 6 by omega) (by omega), clamp_n (by omega), nI_1]; exact g1 E1, fun E2 v3 v5 v7 v8 V1 V2 V3 T => by rw [LX7_draw_73, if_neg hq, e2, bnd2_s, gi_n (show j < 6 by omega) (by omega), clamp_n (by omega), nI_1]; exact g2 E2 v3 v5 v7 v8 V1 V2 V3 T⟩
section Ds
variable {i n rt c : Nat} {K L R MK MO MT form root E V S Wd C mE mV mS mM mW mR : Nat → Int32} {RD : Nat → Nat → Int32}
theorem draw_loop (hi : i < 8) (hn : n ≤ 60) (hrt : rt < n) (h : RowsRel n (64 * i) K L R MK MO MT) (hf : form i = nI n) (hr : root i = nI rt) (hA : ARel E V S C mE mV mS mM) (hS : SRel S Wd C mW mR RD) {d : Nat} (hd : d ≤ 100) (Uf : Nat → Option Nat) (CV : Nat → Nat → Int32) (Vd Vf : Nat → Int32) (Vc v1 : Int32) (pF : Nat) (mC fr fa : Nat → Int32) (m ro : Int32) (v4 v6 : Int64) (Fs bs bc Z Q : Nat → Int64) (bv bd : Int64) (T : Int32)
    (Eb : Int32 → (Nat → Int32) → (Nat → Int64) → (Nat → Int64) → (Nat → Int64) → (Nat → Int64) → Int64 → Int64 → Int32 → Option (Int32 × (Nat → Int32) × (Nat → Int64) × (Nat → Int64) × (Nat → Int64) × (Nat → Int64) × Int64 × Int64 × Int32)) (Em : Int32 → (Nat → Int64) → (Nat → Int64) → (Nat → Int32) → (Nat → Int64) → Int32 → Int32 → Option (Int32 × (Nat → Int64) × (Nat → Int64) × (Nat → Int32) × (Nat → Int64) × Int32 × Int32)) :
    ∀ (f j k : Nat) (hits : Int32) (u w : Nat → Int32) (X Y : Nat → Int64), j ≤ d → d - j < f → k ≤ 65536 → ∃ (k' : Nat) (hits' : Int32) (u' w' : Nat → Int32) (X' Y' : Nat → Int64), k' ≤ 65536 ∧ LX6_draw_57 Uf E V S Wd C RD CV K L R (nI n) (nI rt) Vd Vf Vc v1 (nI d) pF Eb f v4 v6 hits (nI j) u X Fs bs bc bv bd (nI k) = Eb hits' u' X' Fs bs bc bv bd (nI k') ∧
      LX7_draw_64 mE mS mW mM mR mV mC form root MK MO MT fr fa m ro (nI i) (nI d) Em f v4 v6 hits (nI j) Y Z w Q T (nI k) = Em hits' Y' Z w' Q T (nI k')
  | 0, j, _, _, _, _, _, _, _, q, _ => absurd q (Nat.not_lt_zero _)
  | f + 1, j, k, hits, u, w, X, Y, hj, q, hk => by
    have hok : ∀ j, j < n → rowOK j (K j) (L j) (R j) := fun j hj => (h j hj).1
    rw [LX6_draw_57, LX7_draw_64]
    by_cases hc : d ≤ j
    · have hle : nI d ≤ nI j := nI_le hc (by omega)
      rw [if_pos hle, if_pos hle]
      exact ⟨k, hits, u, w, X, Y, hk, rfl, rfl⟩
    · have hnle : ¬ nI d ≤ nI j := fun y => hc ((nI_leI (by omega) (by omega)).mp y)
      rw [if_neg hnle, if_neg hnle]
      obtain ⟨k', u', w', k1, hu, g1, g2⟩ := drawn_loop2 hA hS mV mC form root MK MO MT fr fa m ro (nI i) (nI d) 1000 0 k u w (by omega) (by omega) hk (fun _ y => absurd y (Nat.not_lt_zero _))
      rw [nI_0] at g1 g2
      unfold fX4_drawInto
      rw [g1, bnd2_s, g2, c_reckonBy hn hok (by omega) u' X, bnd2_s, m_values (u := w') (show i < 9 by omega) hn (show rt < 60 by omega) h hf hr (if_neg n10).symm Y, bnd2_s, valsTo_u (V := Y) (V2 := X) (fun j hj => (hu j hj).symm) hn hok rt hrt]
      have skip : ∃ (k2 : Nat) (hits' : Int32) (u2 w2 : Nat → Int32) (X' Y' : Nat → Int64), k2 ≤ 65536 ∧ LX6_draw_57 Uf E V S Wd C RD CV K L R (nI n) (nI rt) Vd Vf Vc v1 (nI d) pF Eb f v4 v6 hits (nI j + 1) u' (valsTo K L R u' n X) Fs bs bc bv bd (nI k') = Eb hits' u2 X' Fs bs bc bv bd (nI k2) ∧ BX7_draw_139 mE mS mW mM mR mV mC form root MK MO MT fr fa m ro (nI i) (nI d) (LX7_draw_64 mE mS mW mM mR mV mC form root MK MO MT fr fa m ro (nI i) (nI d) Em f) Em v4 v6 (nI j) hits (valsTo K L R w' n Y) Z w' Q T (nI k') = Em hits' Y' Z w2 Q T (nI k2) := by
        unfold BX7_draw_139 BX7_draw_140
        rw [add0, nI_1]
        exact draw_loop hi hn hrt h hf hr hA hS hd Uf CV Vd Vf Vc v1 pF mC fr fa m ro v4 v6 Fs bs bc Z Q bv bd T Eb Em f (j + 1) k' hits u' w' _ _ (by omega) (by omega) k1
      by_cases c1 : lg_cmp v4 (-1) = 0
      · rw [if_pos c1, if_pos c1]
        exact skip
      · rw [if_neg c1, if_neg c1]
        by_cases c2 : lg_cmp (valsTo K L R u' n X rt - v6) (-v4) < 0
        · rw [if_pos c2, if_pos c2, ite_self]
          exact skip
        · rw [if_neg c2, if_neg c2]
          by_cases c3 : 0 < lg_cmp (valsTo K L R u' n X rt - v6) v4
          · rw [if_pos c3, if_pos c3]
            exact skip
          · rw [if_neg c3, if_neg c3]
            unfold BX7_draw_140
            rw [nI_1]
            exact draw_loop hi hn hrt h hf hr hA hS hd Uf CV Vd Vf Vc v1 pF mC fr fa m ro v4 v6 Fs bs bc Z Q bv bd T Eb Em f (j + 1) k' (hits + 1) u' w' _ _ (by omega) (by omega) k1
theorem m_draw_28 (s : Int32) (hs : ¬ s = 0) (mC fr fa : Nat → Int32) (m ro v v2 : Int32) (Y Z Q : Nat → Int64) (w : Nat → Int32) (T x : Int32) : BX7_draw_28 mE mS mW mM mR mV mC form root MK MO MT fr fa m ro v v2 s Y Z w Q T x = some (0, Y, Z, w, Q, s, x) := by
  unfold BX7_draw_28
  rw [holds_eq, bnd2_s, if_neg hs, if_pos rfl]
theorem m_draw_out {v m : Int32} (h : fX7_isModel v m = some 0) (v2 : Int32) (mC fr fa : Nat → Int32) (ro : Int32) (Y Z Q : Nat → Int64) (w : Nat → Int32) (T x : Int32) : fX7_draw v v2 mE mS mW mM mR mV mC form root MK MO MT Y Z w Q fr fa T m ro x = some (0, Y, Z, w, Q, 1, x) := by
  unfold fX7_draw
  rw [h, bnd1_s, if_pos rfl]
  exact m_draw_28 1 n10 mC fr fa m ro v v2 Y Z Q w T x
theorem m_draw_bad {v m v2 : Int32} (h : fX7_isModel v m = some 1) (h2 : v2 < 1 ∨ 100 < v2) (mC fr fa : Nat → Int32) (ro : Int32) (Y Z Q : Nat → Int64) (w : Nat → Int32) (T x : Int32) : fX7_draw v v2 mE mS mW mM mR mV mC form root MK MO MT Y Z w Q fr fa T m ro x = some (0, Y, Z, w, Q, 2, x) := by
  unfold fX7_draw
  rw [h, bnd1_s, if_neg n10, isIn_eq, if_pos h2, bnd1_s, if_pos rfl]
  exact m_draw_28 2 n20 mC fr fa m ro v v2 Y Z Q w T x
theorem q_draw {d : Nat} (h2 : ¬ (nI d < 1 ∨ 100 < nI d)) (hd : d ≤ 100) (hc : c ≤ 8) (hi : i < c) (hM : fX7_isModel (nI i) (nI c) = some 1) (hn : n ≤ 60) (hrt : rt < n) (h : RowsRel n (64 * i) K L R MK MO MT) (hf : form i = nI n) (hr : root i = nI rt) (hA : ARel E V S C mE mV mS mM) (hS : SRel S Wd C mW mR RD) (hSc : sortCnt mS mM) {CV : Nat → Nat → Int32} {mC : Nat → Int32} (hC : CRel CV mC) {D F fr fa : Nat → Int32} {tn : Nat} (hT : TabRel tn D F fr fa) {k : Nat} (hk : k ≤ 65536) (Uf : Nat → Option Nat) (v1 : Int32) (pF : Nat) (bs bc : Nat → Int64) (bv bd : Int64) (X W Y Z Q : Nat → Int64) (u w : Nat → Int32) (T : Int32) :
    ∃ (w2 A2 Y2 Z2 W2 X2 : Nat → Int64) (Vv Dd : Int64) (hits : Int32) (k' : Nat) (u' w' : Nat → Int32), fX0_reckon bs bc bv bd K L R X W (nI n) (nI rt) E V C CV = some (w2, conTo w2 V bc 6, Vv, Dd, valsTo K L R E n X, A2) ∧
      bnd1 (fX0_statedDoubt Vv Dd D F (nI tn)) (fun r4 => bnd2 (fX3_reckonBy K L R (valsTo K L R E n X) (nI n) (nI rt) E) (fun r5 values_5 => LX6_draw_57 Uf E V S Wd C RD CV K L R (nI n) (nI rt) D F (nI tn) v1 (nI d) pF (fun (v8 : Int32) (Udrawn : Nat → Int32) (Fvalues : Nat → Int64) (Fslopes : Nat → Int64) (Bslopes : Nat → Int64) (Bcontributions : Nat → Int64) (Bvariance : Int64) (BdegreesSum : Int64) (Cx : Int32) => some (v8, Udrawn, Fvalues, Fslopes, Bslopes, Bcontributions, Bvariance, BdegreesSum, Cx)) 1000 r4 r5 0 0 u values_5 A2 w2 (conTo w2 V bc 6) Vv Dd (nI k))) = some (hits, u', X2, A2, w2, conTo w2 V bc 6, Vv, Dd, nI k') ∧
      fX7_draw (nI i) (nI d) mE mS mW mM mR mV mC form root MK MO MT Y Z w Q fr fa T (nI c) (nI tn) (nI k) = some (hits, Y2, Z2, w', W2, 0, nI k') ∧ k' ≤ 65536 := by
  have hok : ∀ j, j < n → rowOK j (K j) (L j) (R j) := fun j hj => (h j hj).1
  obtain ⟨w2, A2, Y2, Z2, W2, Vv, e1, e2, e3, -⟩ := q_reckon (drawn := w) (show i < 8 by omega) hn hrt h hf hr hA hC bs bc bv bd X W Y Z Q
  obtain ⟨r, g1, g2⟩ := stated_same hT hSc mV W2 Vv
  have hv : valsTo K L R mE n Y2 rt = valsTo K L R E n (valsTo K L R E n X) rt := valsTo_u (fun j hj => (hA j hj).1) hn hok rt hrt
  obtain ⟨k', hits, u', w', X', Y', k1, p1, p2⟩ := draw_loop (show i < 8 by omega) hn hrt h hf hr hA hS hd Uf CV D F (nI tn) v1 pF mC fr fa (nI c) (nI tn) r (valsTo K L R E n (valsTo K L R E n X) rt) A2 w2 (conTo w2 V bc 6) Z2 W2 Vv (degSum mM (partOf W2 mV) Vv 6) 0 (fun (v8 : Int32) (Udrawn : Nat → Int32) (Fvalues : Nat → Int64) (Fslopes : Nat → Int64) (Bslopes : Nat → Int64) (Bcontributions : Nat → Int64) (Bvariance : Int64) (BdegreesSum : Int64) (Cx : Int32) => some (v8, Udrawn, Fvalues, Fslopes, Bslopes, Bcontributions, Bvariance, BdegreesSum, Cx)) (fun v7 Mvalue Mslope Mdrawn Mslopes Mthrown Mx => some (v7, Mvalue, Mslope, Mdrawn, Mslopes, Mthrown, Mx)) 1000 0 k 0 u w (valsTo K L R E n (valsTo K L R E n X)) (valsTo K L R mE n Y2) (by omega) (by omega) hk
  rw [nI_0] at p1 p2
  refine ⟨w2, A2, Y', Z2, W2, X', Vv, _, hits, k', u', w', e1, ?_, ?_, k1⟩
  · rw [g1, bnd1_s, c_reckonBy hn hok (by omega) E _, bnd2_s]
    exact p1
  · unfold fX7_draw
    rw [hM, bnd1_s, if_neg n10, isIn_eq, if_neg h2, bnd1_s, if_neg n10]
    unfold BX7_draw_28
    rw [holds_eq, bnd2_s, if_pos rfl, if_neg n10, e2, bnd3_s, e3, bnd1_s, g2, bnd1_s, m_values (u := mE) (show i < 9 by omega) hn (show rt < 60 by omega) h hf hr (if_pos rfl).symm Y2, bnd2_s, hv]
    exact p2
end Ds
