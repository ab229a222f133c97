/-! ===== unit, model: all the formulas ===== -/
theorem unit_37 (s : Int32) (hs : ¬ s = 0) (form MK MO MT sg MP ML MR un Y : Nat → Int32) (m v1 v2 v3 T : Int32) : BX7_unit_37 form MK MO MT sg MP ML MR m v1 v2 v3 s un Y T = some (0, un, Y, s) := by
  unfold BX7_unit_37
  rw [holds_eq, bnd2_s, if_neg hs, if_pos rfl]
theorem unit_loop {c : Nat} (hc : c ≤ 8) {form MK MO MT sg MP ML MR un : Nat → Int32} {rr : Nat → Int32} (hf : ∀ i, i < c → ∀ Y, ∃ Y2, fX7_fault (nI i) un form MK MO MT sg MP ML MR Y = some (rr i, Y2)) (v1 v2 v3 T : Int32) (E : Int32 → (Nat → Int32) → (Nat → Int32) → Int32 → Option (Int32 × (Nat → Int32) × (Nat → Int32) × Int32)) :
    ∀ (f j : Nat) (Y : Nat → Int32), j ≤ c → c - j < f → ∃ Y2, LX7_unit_71 form MK MO MT sg MP ML MR (nI c) v1 v2 v3 E f (nI (cntD rr j)) (nI j) un Y T = E (nI (cntD rr c)) un Y2 T
  | 0, j, _, _, q => absurd q (Nat.not_lt_zero _)
  | f + 1, j, Y, hj, q => by
    rw [LX7_unit_71]
    by_cases hcj : c ≤ j
    · have : j = c := by omega
      subst this
      rw [if_pos (Int32.le_refl _)]
      exact ⟨Y, rfl⟩
    · obtain ⟨Y2, e⟩ := hf j (by omega) Y
      rw [if_neg (fun y => hcj ((nI_leI (by omega) (by omega)).mp y)), e, bnd2_s]
      by_cases hr : rr j = -1
      · obtain ⟨Y3, g⟩ := unit_loop hc hf v1 v2 v3 T E f (j + 1) Y2 (by omega) (by omega)
        have ec : cntD rr (j + 1) = cntD rr j := if_pos hr
        rw [ec] at g
        rw [if_pos hr]
        unfold BX7_unit_97
        rw [add0, nI_1]
        exact ⟨Y3, g⟩
      · obtain ⟨Y3, g⟩ := unit_loop hc hf v1 v2 v3 T E f (j + 1) Y2 (by omega) (by omega)
        have ec : cntD rr (j + 1) = cntD rr j + 1 := if_neg hr
        rw [ec] at g
        rw [if_neg hr]
        unfold BX7_unit_97
        rw [nI_1, nI_1]
        exact ⟨Y3, g⟩
/-- what a formula's two units say -/
def fdR (Z : FC) (u1 u2 : Nat → Int32) : Int32 := match fX3_findDisagreement (Z.1 0) (Z.1 1) (Z.1 2) (Z.1 3) (Z.1 4) Z.2.2.1 Z.2.2.2 u1 u2 with
  | some p => p.1
  | none => 0
def fdE (Z : FC) (u1 u2 : Nat → Int32) : Nat → Int32 := match fX3_findDisagreement (Z.1 0) (Z.1 1) (Z.1 2) (Z.1 3) (Z.1 4) Z.2.2.1 Z.2.2.2 u1 u2 with
  | some p => p.2
  | none => fun _ => 0
theorem fd_same {mi : TT} {j : Nat} (hj : j < 8) {Z : FC} (h : FR j Z mi) {u1 u2 un : Nat → Int32} (hu : URel u1 u2 un) : fX3_findDisagreement (Z.1 0) (Z.1 1) (Z.1 2) (Z.1 3) (Z.1 4) Z.2.2.1 Z.2.2.2 u1 u2 = some (fdR Z u1 u2, fdE Z u1 u2) ∧ ∀ Y, ∃ Y2, fX7_fault (nI j) un (mi 9) (mi 11) (mi 12) (mi 13) (mi 14) (mi 15) (mi 16) (mi 17) Y = some (fdR Z u1 u2, Y2) := by
  obtain ⟨n, ns, rt, hn, hns, hrt, hsz, hroot, hf, hr, hs, hrows, hsigns⟩ := h
  have key : ∀ Y, ∃ r X2 Y2, fX3_findDisagreement (Z.1 0) (Z.1 1) (Z.1 2) (Z.1 3) (Z.1 4) Z.2.2.1 Z.2.2.2 u1 u2 = some (r, X2) ∧ fX7_fault (nI j) un (mi 9) (mi 11) (mi 12) (mi 13) (mi 14) (mi 15) (mi 16) (mi 17) Y = some (r, Y2) := fun Y => by
    obtain ⟨r, X2, Y2, e1, e2, -⟩ := disagree_same (show j < 9 by omega) hn hns (show rt < 60 by omega) hrows hf hs hsigns (fun j hj => (hu j hj).1) (fun j hj => (hu j hj).2) (Z.1 4) Y
    exact ⟨r, X2, Y2, by rw [hsz, hroot]; exact e1, e2⟩
  have e : ∀ r X2, fX3_findDisagreement (Z.1 0) (Z.1 1) (Z.1 2) (Z.1 3) (Z.1 4) Z.2.2.1 Z.2.2.2 u1 u2 = some (r, X2) → fdR Z u1 u2 = r ∧ fdE Z u1 u2 = X2 := fun r X2 e => by
    unfold fdR fdE
    rw [e]
    exact ⟨rfl, rfl⟩
  refine ⟨?_, fun Y => ?_⟩
  · obtain ⟨r, X2, Y2, e1, e2⟩ := key (fun _ => 0)
    rw [(e r X2 e1).1, (e r X2 e1).2]
    exact e1
  · obtain ⟨r, X2, Y2, e1, e2⟩ := key Y
    exact ⟨Y2, by rw [(e r X2 e1).1]; exact e2⟩
theorem FW_app {k : Nat → ClassId} {aF : Nat → Nat → Nat} {X : Nat → FC} {L M : List Nat} : FW k aF X (L ++ M) = FW k aF X L ++ FW k aF X M := List.flatMap_append
theorem FW_new {k : Nat → ClassId} {aF : Nat → Nat → Nat} {X : Nat → FC} {c : Nat} {a : Nat → Nat} {Z : FC} : (FW k (st aF c a) (setF X c Z) (List.range (c + 1))).Perm (wFc k a Z ++ FW k aF X (List.range c)) := by
  have e1 : FW k (st aF c a) (setF X c Z) (List.range c) = FW k aF X (List.range c) := FW_congr (fun i hi => ⟨if_neg (by have := List.mem_range.mp hi; omega), if_neg (by have := List.mem_range.mp hi; omega)⟩)
  have e2 : FW k (st aF c a) (setF X c Z) [c] = wFc k a Z := by
    rw [FW_cons]
    show wFc k (st aF c a c) (setF X c Z c) ++ [] = _
    rw [List.append_nil, st_at, show setF X c Z c = Z from if_pos rfl]
  rw [List.range_succ, FW_app, e1, e2]
  exact List.perm_append_comm
theorem FW_putA {k : Nat → ClassId} {aF : Nat → Nat → Nat} {X : Nat → FC} {a : Nat → Nat} {Z : FC} {c i : Nat} (hi : i < c) : (FW k (st aF i a) (setF X i Z) (List.range c)).Perm (wFc k a Z ++ FW k aF X (others c i)) := by
  have e2 : FW k (st aF i a) (setF X i Z) (others c i) = FW k aF X (others c i) := FW_congr (fun j hj => ⟨if_neg (others_ne hj), if_neg (others_ne hj)⟩)
  have e1 : wFc k (st aF i a i) (setF X i Z i) = wFc k a Z := by rw [st_at, show setF X i Z i = Z from if_pos rfl]
  have h := FW_pick (k := k) (aF := st aF i a) (X := setF X i Z) hi
  rw [e1, e2] at h
  exact h
theorem F_new {c : Nat} {X : Nat → FC} {mi : TT} {Z : FC} (h : ∀ j, j < c → FR j (X j) mi) (hZ : FR c Z mi) : ∀ j, j < c + 1 → FR j (setF X c Z j) mi := fun j hj => by
  unfold setF
  by_cases e : j = c
  · subst e
    rw [if_pos rfl]
    exact hZ
  · rw [if_neg e]
    exact h j (by omega)
theorem pmNew {U I L S T B V C F F' : va_W} (h : F'.Perm (S ++ F)) : ((U ++ (L ++ S) ++ T) ++ (I ++ (B ++ (V ++ (C ++ F))))).Perm (U ++ (I ++ (L ++ (T ++ (B ++ (V ++ (C ++ F'))))))) := pmc (fun a => by
  have e := h.count_eq a
  simp only [List.count_append] at e ⊢
  omega)
theorem pmOld {U I L S T B V C F F' O : va_W} (h : F.Perm (T ++ O)) (h' : F'.Perm (S ++ O)) : ((U ++ (L ++ S)) ++ (I ++ (B ++ (V ++ (C ++ F))))).Perm (U ++ (I ++ (L ++ (T ++ (B ++ (V ++ (C ++ F'))))))) := pmc (fun a => by
  have e := h.count_eq a
  have e' := h'.count_eq a
  simp only [List.count_append] at e e' ⊢
  omega)
set_option maxHeartbeats 4000000 in
theorem step_unit (l : Launch) (hst : l.stackTraces = false) (D : va_G) (k : Nat → ClassId) (v1 : Int32) (v2 : Int32) (v3 : Int32) : StepI l D k yL_unit wsL_unit (fun a0 qo => [.ref a0, .int v1, .int v2, .int v3, .ref qo]) yX7_unit wsX7_unit (fun m0 => [.ref m0, .int v1, .int v2, .int v3]) := by
  rintro a0 m0 th wb wm ⟨ad, aF, c, Y, G, Ls, len, lat, S, X, bs, bc, bv, bd, Vd, Vf, Vc, x, dr, aM, mi, ml, mz, rfl, rfl, rfl, rfl, rfl, hR⟩
  have hR0 := hR
  obtain ⟨⟨hA, hS, hU, hC⟩, ⟨ln, hln, rfl, hlm, hL⟩, ⟨hc, hcm⟩, hF, ⟨tn, rfl, htm, hT⟩, ⟨x0, hx0, rfl, hxm⟩⟩ := hR
  rcases isI v1 with ⟨i, hi, rfl, hI⟩ | ⟨h5, h6, hI⟩
  · by_cases r2 : v2 < (-3) ∨ ¬ v2 ≤ 3
    · have hM : fX7_unit (nI i) v2 v3 (mi 1) (mi 9) (mi 11) (mi 12) (mi 13) (mi 14) (mi 15) (mi 16) (mi 17) (mi 23) (mz 0) (mz 2) = some (0, (mi 1), (mi 23), 2) := by
        unfold fX7_unit
        rw [hI, bnd1_s, if_neg n10, isIn_eq, if_pos (rg.mpr r2), bnd1_s, if_pos rfl]
        exact unit_37 2 n20 (mi 9) (mi 11) (mi 12) (mi 13) (mi 14) (mi 15) (mi 16) (mi 17) (mi 1) (mi 23) _ _ _ _ _
      refine ⟨(2 : Int32), (0 : Int32), (0 : Int64), fun _ => (BW k ad aF c Y G Ls (nI ln) lat S X bs bc bv bd Vd Vf (nI tn) (nI x0) dr), MW k aM mi ml (st mz 0 2), fun _ => ⟨ad, aF, c, Y, G, Ls, (nI ln), lat, S, X, bs, bc, bv, bd, Vd, Vf, (nI tn), (nI x0), dr, aM, mi, ml, (st mz 0 2), rfl, rfl, rfl, rfl, rfl, hR0⟩, bd_x (by decide) ⟨rfl, rfl, Nat.le_of_ble_eq_true rfl, Nat.le_of_ble_eq_true rfl⟩ (fun qo sz => law_unit_x2 l D k _ (ad 0 0) _ rfl qo sz (nI i) v2 v3 (thr_up ((wIc k (ad 1) Y G) ++ ((wL k (ad 2) Ls (nI ln) lat) ++ ((wFc k (ad 3) S) ++ ((wB k (ad 4) bs bc bv bd) ++ ((wV k (ad 5) Vd Vf (nI tn)) ++ ((wC k (ad 6) (nI x0)) ++ (FW k aF X (List.range c)))))))) (fun sz => thr_X6_unit_1 l hst D k (ad 0) (ad 1 0) (ad 2 0) (ad 3 0) (ad 4 0) (ad 5 0) (ad 6 0) sz (fRow c aF) dr (nI c) (nI i) v2 v3 (ck_I hi) r2) (List.Perm.refl _))) 0, ⟨rmX7_unit, ⟨rfl, rfl, Nat.le_of_ble_eq_true rfl, Nat.le_of_ble_eq_true rfl⟩, fun sz => met_X7_unit l D k aM sz (mi 0) (mi 1) (mi 2) (mi 3) (mi 4) (mi 5) (mi 6) (mi 7) (mi 8) (mi 9) (mi 10) (mi 11) (mi 12) (mi 13) (mi 14) (mi 15) (mi 16) (mi 17) (mi 18) (mi 19) (mi 20) (mi 21) (mi 22) (ml 0) (ml 1) (mi 23) (mi 24) (ml 2) (mi 25) (mi 26) (mz 0) (mz 1) (mz 2) (mz 3) (mz 4) (mz 5) (mz 6) (nI i) v2 v3 0 (mi 1) (mi 23) 2 hM⟩, fun q => absurd q (by decide)⟩
    · by_cases r3 : v3 < (-3) ∨ ¬ v3 ≤ 3
      · have hM : fX7_unit (nI i) v2 v3 (mi 1) (mi 9) (mi 11) (mi 12) (mi 13) (mi 14) (mi 15) (mi 16) (mi 17) (mi 23) (mz 0) (mz 2) = some (0, (mi 1), (mi 23), 2) := by
          unfold fX7_unit
          rw [hI, bnd1_s, if_neg n10, isIn_eq, if_neg (fun q => r2 (rg.mp q)), bnd1_s, if_neg n10, isIn_eq, if_pos (rg.mpr r3), bnd1_s, if_pos rfl]
          exact unit_37 2 n20 (mi 9) (mi 11) (mi 12) (mi 13) (mi 14) (mi 15) (mi 16) (mi 17) (mi 1) (mi 23) _ _ _ _ _
        refine ⟨(2 : Int32), (0 : Int32), (0 : Int64), fun _ => (BW k ad aF c Y G Ls (nI ln) lat S X bs bc bv bd Vd Vf (nI tn) (nI x0) dr), MW k aM mi ml (st mz 0 2), fun _ => ⟨ad, aF, c, Y, G, Ls, (nI ln), lat, S, X, bs, bc, bv, bd, Vd, Vf, (nI tn), (nI x0), dr, aM, mi, ml, (st mz 0 2), rfl, rfl, rfl, rfl, rfl, hR0⟩, bd_x (by decide) ⟨rfl, rfl, Nat.le_of_ble_eq_true rfl, Nat.le_of_ble_eq_true rfl⟩ (fun qo sz => law_unit_x2 l D k _ (ad 0 0) _ rfl qo sz (nI i) v2 v3 (thr_up ((wIc k (ad 1) Y G) ++ ((wL k (ad 2) Ls (nI ln) lat) ++ ((wFc k (ad 3) S) ++ ((wB k (ad 4) bs bc bv bd) ++ ((wV k (ad 5) Vd Vf (nI tn)) ++ ((wC k (ad 6) (nI x0)) ++ (FW k aF X (List.range c)))))))) (fun sz => thr_X6_unit_2 l hst D k (ad 0) (ad 1 0) (ad 2 0) (ad 3 0) (ad 4 0) (ad 5 0) (ad 6 0) sz (fRow c aF) dr (nI c) (nI i) v2 v3 (ck_I hi) (ck_R r2) r3) (List.Perm.refl _))) 0, ⟨rmX7_unit, ⟨rfl, rfl, Nat.le_of_ble_eq_true rfl, Nat.le_of_ble_eq_true rfl⟩, fun sz => met_X7_unit l D k aM sz (mi 0) (mi 1) (mi 2) (mi 3) (mi 4) (mi 5) (mi 6) (mi 7) (mi 8) (mi 9) (mi 10) (mi 11) (mi 12) (mi 13) (mi 14) (mi 15) (mi 16) (mi 17) (mi 18) (mi 19) (mi 20) (mi 21) (mi 22) (ml 0) (ml 1) (mi 23) (mi 24) (ml 2) (mi 25) (mi 26) (mz 0) (mz 1) (mz 2) (mz 3) (mz 4) (mz 5) (mz 6) (nI i) v2 v3 0 (mi 1) (mi 23) 2 hM⟩, fun q => absurd q (by decide)⟩
      · have hcl := clamp_n (show i < 2 ^ 31 by omega)
        have hU' : URel (upd (Y 5) (nI i).toNatClampNeg v2) (upd (Y 6) (nI i).toNatClampNeg v3) (upd (upd (mi 1) (2 * i) v2) (2 * i + 1) v3) := fun j hj => by
          rw [hcl]
          simp only [upd_at]
          by_cases e : j = i
          · subst e
            rw [if_pos rfl, if_neg (show ¬ 2 * j = 2 * j + 1 by omega), if_pos rfl, if_pos rfl, if_pos rfl]
            exact ⟨rfl, rfl⟩
          · rw [if_neg e, if_neg e, if_neg (show ¬ 2 * j = 2 * i + 1 by omega), if_neg (show ¬ 2 * j = 2 * i by omega), if_neg (show ¬ 2 * j + 1 = 2 * i + 1 by omega), if_neg (show ¬ 2 * j + 1 = 2 * i by omega)]
            exact hU j hj
        have hfd := fun j (hj : j < c) => fd_same (show j < 8 by omega) (hF j hj) hU'
        obtain ⟨Y2, g⟩ := unit_loop hc (rr := (fun j => fdR (X j) (upd (Y 5) (nI i).toNatClampNeg v2) (upd (Y 6) (nI i).toNatClampNeg v3))) (fun j hj => (hfd j hj).2) (nI i) v2 v3 0 (fun v4 Munit Mexponent Mthrown => some (v4, Munit, Mexponent, Mthrown)) 1000 0 (mi 23) (Nat.zero_le c) (by omega)
        rw [show cntD (fun j => fdR (X j) (upd (Y 5) (nI i).toNatClampNeg v2) (upd (Y 6) (nI i).toNatClampNeg v3)) 0 = 0 from rfl, nI_0] at g
        have hM : fX7_unit (nI i) v2 v3 (mi 1) (mi 9) (mi 11) (mi 12) (mi 13) (mi 14) (mi 15) (mi 16) (mi 17) (mi 23) (mz 0) (mz 2) = some (nI (cntD (fun j => fdR (X j) (upd (Y 5) (nI i).toNatClampNeg v2) (upd (Y 6) (nI i).toNatClampNeg v3)) c), (upd (upd (mi 1) (2 * i) v2) (2 * i + 1) v3), Y2, 0) := by
          unfold fX7_unit
          rw [hI, bnd1_s, if_neg n10, isIn_eq, if_neg (fun q => r2 (rg.mp q)), bnd1_s, if_neg n10, isIn_eq, if_neg (fun q => r3 (rg.mp q)), bnd1_s, if_neg n10]
          unfold BX7_unit_37
          rw [holds_eq, bnd2_s, if_pos rfl, if_neg n10, show (2 : Int32) = nI 2 from rfl, pk_mul, nI_1, gi_n (show 2 * i < 12 by omega) (by omega), gi_n (show 2 * i + 1 < 12 by omega) (by omega), clamp_n (show 2 * i < 2 ^ 31 by omega), clamp_n (show 2 * i + 1 < 2 ^ 31 by omega), hcm]
          exact g
        have hMU := fun sz => met_X6_unit l D k (ad 0) (ad 1) (ad 2 0) (ad 3 0) (ad 4 0) (ad 5 0) (ad 6 0) sz (fRow c aF) dr (nI c) (Y 0) (Y 1) (Y 2) (Y 3) (Y 4) (G 0) (Y 5) (Y 6) (G 1) (FW k aF (askF X (fun j => fdE (X j) (upd (Y 5) (nI i).toNatClampNeg v2) (upd (Y 6) (nI i).toNatClampNeg v3)) 0) (List.range c)) (FW k aF (askF X (fun j => fdE (X j) (upd (Y 5) (nI i).toNatClampNeg v2) (upd (Y 6) (nI i).toNatClampNeg v3)) c) (List.range c)) (nI i) v2 v3 (ck_I hi) (ck_R r2) (ck_R r3) (vin6 hi) (nI (cntD (fun j => fdR (X j) (upd (Y 5) (nI i).toNatClampNeg v2) (upd (Y 6) (nI i).toNatClampNeg v3)) c)) (fun sz => met_X6_countDisagreeing l D k (ad 0) (ad 1) (ad 2 0) (ad 3 0) (ad 4 0) (ad 5 0) (ad 6 0) sz dr (nI c) (Y 0) (Y 1) (Y 2) (Y 3) (Y 4) (G 0) (upd (Y 5) (nI i).toNatClampNeg v2) (upd (Y 6) (nI i).toNatClampNeg v3) (G 1) c hc aF X (fun j => fdR (X j) (upd (Y 5) (nI i).toNatClampNeg v2) (upd (Y 6) (nI i).toNatClampNeg v3)) (fun j => fdE (X j) (upd (Y 5) (nI i).toNatClampNeg v2) (upd (Y 6) (nI i).toNatClampNeg v3)) (fun j hj => (hfd j hj).1))
        rw [askF_0] at hMU
        have hF' : ∀ j, j < c → FR j (askF X (fun j => fdE (X j) (upd (Y 5) (nI i).toNatClampNeg v2) (upd (Y 6) (nI i).toNatClampNeg v3)) c j) mi := fun j hj => by
          unfold askF
          rw [if_pos hj]
          exact hF j hj
        refine ⟨(0 : Int32), (nI (cntD (fun j => fdR (X j) (upd (Y 5) (nI i).toNatClampNeg v2) (upd (Y 6) (nI i).toNatClampNeg v3)) c)), ((nI (cntD (fun j => fdR (X j) (upd (Y 5) (nI i).toNatClampNeg v2) (upd (Y 6) (nI i).toNatClampNeg v3)) c))).toInt64, fun _ => (BW k ad aF c (st (st Y 5 (upd (Y 5) (nI i).toNatClampNeg v2)) 6 (upd (Y 6) (nI i).toNatClampNeg v3)) G Ls (nI ln) lat S (askF X (fun j => fdE (X j) (upd (Y 5) (nI i).toNatClampNeg v2) (upd (Y 6) (nI i).toNatClampNeg v3)) c) bs bc bv bd Vd Vf (nI tn) (nI x0) dr), MW k aM (st (st mi 1 (upd (upd (mi 1) (2 * i) v2) (2 * i + 1) v3)) 23 Y2) ml (st mz 0 0), fun u => ⟨ad, aF, c, (st (st Y 5 (upd (Y 5) (nI i).toNatClampNeg v2)) 6 (upd (Y 6) (nI i).toNatClampNeg v3)), G, Ls, (nI ln), lat, S, (askF X (fun j => fdE (X j) (upd (Y 5) (nI i).toNatClampNeg v2) (upd (Y 6) (nI i).toNatClampNeg v3)) c), bs, bc, bv, bd, Vd, Vf, (nI tn), (nI x0), dr, aM, (st (st mi 1 (upd (upd (mi 1) (2 * i) v2) (2 * i + 1) v3)) 23 Y2), ml, (st mz 0 0), rfl, rfl, rfl, rfl, rfl, ⟨⟨hA, hS, hU', hC⟩, ⟨ln, hln, rfl, hlm, hL⟩, ⟨hc, hcm⟩, hF', ⟨tn, rfl, htm, hT⟩, ⟨x0, hx0, rfl, hxm⟩⟩⟩, bd_ok 0 0 ⟨rfl, rfl, Nat.le_of_ble_eq_true rfl, Nat.le_of_ble_eq_true rfl, Nat.le_of_ble_eq_true rfl, Nat.le_of_ble_eq_true rfl⟩ (fun qo f sz => law_unit_ok l D k _ _ (ad 0 0) _ rfl qo f sz (nI i) v2 v3 (nI (cntD (fun j => fdR (X j) (upd (Y 5) (nI i).toNatClampNeg v2) (upd (Y 6) (nI i).toNatClampNeg v3)) c)) (met_upI ((wL k (ad 2) Ls (nI ln) lat) ++ ((wFc k (ad 3) S) ++ ((wB k (ad 4) bs bc bv bd) ++ ((wV k (ad 5) Vd Vf (nI tn)) ++ (wC k (ad 6) (nI x0)))))) (met_gI (fun sz => hMU sz)) pmUIA (fun _ => pmUIA))), ⟨rmX7_unit, ⟨rfl, rfl, Nat.le_of_ble_eq_true rfl, Nat.le_of_ble_eq_true rfl⟩, fun sz => met_X7_unit l D k aM sz (mi 0) (mi 1) (mi 2) (mi 3) (mi 4) (mi 5) (mi 6) (mi 7) (mi 8) (mi 9) (mi 10) (mi 11) (mi 12) (mi 13) (mi 14) (mi 15) (mi 16) (mi 17) (mi 18) (mi 19) (mi 20) (mi 21) (mi 22) (ml 0) (ml 1) (mi 23) (mi 24) (ml 2) (mi 25) (mi 26) (mz 0) (mz 1) (mz 2) (mz 3) (mz 4) (mz 5) (mz 6) (nI i) v2 v3 (nI (cntD (fun j => fdR (X j) (upd (Y 5) (nI i).toNatClampNeg v2) (upd (Y 6) (nI i).toNatClampNeg v3)) c)) (upd (upd (mi 1) (2 * i) v2) (2 * i + 1) v3) Y2 0 hM⟩, fun _ => rfl⟩
  · have hM : fX7_unit v1 v2 v3 (mi 1) (mi 9) (mi 11) (mi 12) (mi 13) (mi 14) (mi 15) (mi 16) (mi 17) (mi 23) (mz 0) (mz 2) = some (0, (mi 1), (mi 23), 1) := by
      unfold fX7_unit
      rw [hI, bnd1_s, if_pos rfl]
      exact unit_37 1 n10 (mi 9) (mi 11) (mi 12) (mi 13) (mi 14) (mi 15) (mi 16) (mi 17) (mi 1) (mi 23) _ _ _ _ _
    refine ⟨(1 : Int32), (0 : Int32), (0 : Int64), fun _ => (BW k ad aF c Y G Ls (nI ln) lat S X bs bc bv bd Vd Vf (nI tn) (nI x0) dr), MW k aM mi ml (st mz 0 1), fun _ => ⟨ad, aF, c, Y, G, Ls, (nI ln), lat, S, X, bs, bc, bv, bd, Vd, Vf, (nI tn), (nI x0), dr, aM, mi, ml, (st mz 0 1), rfl, rfl, rfl, rfl, rfl, hR0⟩, bd_x (by decide) ⟨rfl, rfl, Nat.le_of_ble_eq_true rfl, Nat.le_of_ble_eq_true rfl⟩ (fun qo sz => law_unit_x1 l D k _ (ad 0 0) _ rfl qo sz v1 v2 v3 (thr_up ((wIc k (ad 1) Y G) ++ ((wL k (ad 2) Ls (nI ln) lat) ++ ((wFc k (ad 3) S) ++ ((wB k (ad 4) bs bc bv bd) ++ ((wV k (ad 5) Vd Vf (nI tn)) ++ ((wC k (ad 6) (nI x0)) ++ (FW k aF X (List.range c)))))))) (fun sz => thr_X6_unit_0 l hst D k (ad 0) (ad 1 0) (ad 2 0) (ad 3 0) (ad 4 0) (ad 5 0) (ad 6 0) sz (fRow c aF) dr (nI c) v1 v2 v3 h6) (List.Perm.refl _))) 0, ⟨rmX7_unit, ⟨rfl, rfl, Nat.le_of_ble_eq_true rfl, Nat.le_of_ble_eq_true rfl⟩, fun sz => met_X7_unit l D k aM sz (mi 0) (mi 1) (mi 2) (mi 3) (mi 4) (mi 5) (mi 6) (mi 7) (mi 8) (mi 9) (mi 10) (mi 11) (mi 12) (mi 13) (mi 14) (mi 15) (mi 16) (mi 17) (mi 18) (mi 19) (mi 20) (mi 21) (mi 22) (ml 0) (ml 1) (mi 23) (mi 24) (ml 2) (mi 25) (mi 26) (mz 0) (mz 1) (mz 2) (mz 3) (mz 4) (mz 5) (mz 6) v1 v2 v3 0 (mi 1) (mi 23) 1 hM⟩, fun q => absurd q (by decide)⟩
