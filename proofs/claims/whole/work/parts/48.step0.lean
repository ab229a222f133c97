/-! ===== orders of the book's cells ===== -/
theorem pmUI {U I R : va_W} : ((U ++ I) ++ R).Perm (U ++ (I ++ R)) := by rw [List.append_assoc]
theorem pmUL {U I L R : va_W} : ((U ++ L) ++ (I ++ R)).Perm (U ++ (I ++ (L ++ R))) := pmc (fun a => by simp only [List.count_append]; omega)
theorem pmUV {U I L S B V R : va_W} : ((U ++ V) ++ (I ++ (L ++ (S ++ (B ++ R))))).Perm (U ++ (I ++ (L ++ (S ++ (B ++ (V ++ R)))))) := pmc (fun a => by simp only [List.count_append]; omega)
theorem pmUC {U I L S B V C R : va_W} : ((U ++ C) ++ (I ++ (L ++ (S ++ (B ++ (V ++ R)))))).Perm (U ++ (I ++ (L ++ (S ++ (B ++ (V ++ (C ++ R))))))) := pmc (fun a => by simp only [List.count_append]; omega)
theorem pmULS {U I L S R : va_W} : ((U ++ (L ++ S)) ++ (I ++ R)).Perm (U ++ (I ++ (L ++ (S ++ R)))) := pmc (fun a => by simp only [List.count_append]; omega)
theorem pmUIA {U I L S B V C F : va_W} : ((U ++ I ++ F) ++ (L ++ (S ++ (B ++ (V ++ C))))).Perm (U ++ (I ++ (L ++ (S ++ (B ++ (V ++ (C ++ F))))))) := pmc (fun a => by simp only [List.count_append]; omega)
theorem pmUIF {U I L S B V C F Fi Fo : va_W} (h : F.Perm (Fi ++ Fo)) : ((U ++ I ++ Fi) ++ (L ++ (S ++ (B ++ (V ++ (C ++ Fo)))))).Perm (U ++ (I ++ (L ++ (S ++ (B ++ (V ++ (C ++ F))))))) := pmc (fun a => by
  have e := h.count_eq a
  simp only [List.count_append] at e ⊢
  omega)
theorem pmUIFB {U I L S B V C F Fi Fo : va_W} (h : F.Perm (Fi ++ Fo)) : ((U ++ I ++ Fi ++ B) ++ (L ++ (S ++ (V ++ (C ++ Fo))))).Perm (U ++ (I ++ (L ++ (S ++ (B ++ (V ++ (C ++ F))))))) := pmc (fun a => by
  have e := h.count_eq a
  simp only [List.count_append] at e ⊢
  omega)
theorem pmUIFBV {U I L S B V C F Fi Fo : va_W} (h : F.Perm (Fi ++ Fo)) : ((U ++ I ++ Fi ++ B ++ V) ++ (L ++ (S ++ (C ++ Fo)))).Perm (U ++ (I ++ (L ++ (S ++ (B ++ (V ++ (C ++ F))))))) := pmc (fun a => by
  have e := h.count_eq a
  simp only [List.count_append] at e ⊢
  omega)
theorem pmUIFBVC {U I L S B V C F Fi Fo : va_W} (h : F.Perm (Fi ++ Fo)) : ((U ++ I ++ Fi ++ B ++ V ++ C) ++ (L ++ (S ++ Fo))).Perm (U ++ (I ++ (L ++ (S ++ (B ++ (V ++ (C ++ F))))))) := pmc (fun a => by
  have e := h.count_eq a
  simp only [List.count_append] at e ⊢
  omega)
/-! ===== what the book's checks say ===== -/
theorem bnd0_s {β : Type} (f : Option β) : bnd0 (some ()) f = f := rfl
theorem ck_I {i : Nat} (hi : i < 6) : fX6_checkInput (nI i) = some () := by
  unfold fX6_checkInput
  rw [if_neg (nI_pos (by omega)), if_pos (show nI i < 6 from (nI_ltI (b := 6) (by omega) (by omega)).mpr hi)]
theorem ck_R {v a b : Int32} (h : ¬ (v < a ∨ ¬ v ≤ b)) : fX6_checkRange v a b = some () := by
  unfold fX6_checkRange
  rw [if_neg (fun q => h (Or.inl q)), if_pos (Decidable.not_not.mp (fun q => h (Or.inr q)))]
theorem rg {v a b : Int32} : (v < a ∨ b < v) ↔ (v < a ∨ ¬ v ≤ b) := by rw [Int32.not_le]
theorem vin6 {i : Nat} (hi : i < 6) : vp_in (nI i) 6 := vp_in_nI hi (by omega)
theorem vin8 {i : Nat} (hi : i < 8) : vp_in (nI i) 8 := vp_in_nI hi (by omega)
theorem fRow_out {v : Int32} {c : Nat} (hc : c ≤ 8) (aF : Nat → Nat → Nat) (h : v < 0 ∨ nI c ≤ v) : ¬ vp_in v 8 ∨ fRow c aF v.toNatClampNeg = none := by
  by_cases hin : vp_in v 8
  · right
    obtain ⟨j, hj, rfl⟩ := vp_in_of hin (by decide)
    rcases h with h | h
    · exact absurd h (nI_pos (by omega))
    · rw [clamp_n (show j < 2 ^ 31 by omega)]
      exact if_neg (by have := (nI_leI (by omega) (by omega)).mp h; omega)
  · exact Or.inl hin
theorem fRow_in {i c : Nat} (hc : c ≤ 8) (hi : i < c) (aF : Nat → Nat → Nat) : vp_in (nI i) 8 ∧ fRow c aF (nI i).toNatClampNeg = some (aF i 0) := ⟨vin8 (by omega), by rw [clamp_n (show i < 2 ^ 31 by omega)]; exact if_pos hi⟩
theorem gF_s {α : Type} {c i : Nat} (hc : c ≤ 8) (hi : i < c) (aF : Nat → Nat → Nat) (x : Option α) : gF (fRow c aF) (nI i) (aF i 0) x = x := by
  obtain ⟨h1, h2⟩ := fRow_in hc hi aF
  unfold gF
  rw [if_neg h1, if_pos h2]
/-! ===== what ties the worlds, behind a call ===== -/
theorem A_upd {E V S C mE mV mS mM : Nat → Int32} (h : ARel E V S C mE mV mS mM) (i : Nat) (a b s t : Int32) : ARel (upd E i a) (upd V i b) (upd S i s) (upd C i t) (upd mE i a) (upd mV i b) (upd mS i s) (upd mM i t) := fun j hj => by
  simp only [upd_at]
  by_cases e : j = i
  · simp [e]
  · simp only [if_neg e]
    exact h j hj
theorem A_sc {E V S W C mE mV mS mM mW mR : Nat → Int32} {RD : Nat → Nat → Int32} (hA : ARel E V S C mE mV mS mM) (hS : SRel S W C mW mR RD) : sortCnt mS mM := fun j hj => by
  obtain ⟨b1, b2, b3, b4⟩ := hA j hj
  rw [b3, b4]
  exact SRel_cnt hS j hj
theorem F_set {c i : Nat} {X : Nat → FC} {mi : TT} {Z : FC} (h : ∀ j, j < c → FR j (X j) mi) (hZ : FR i Z mi) : ∀ j, j < c → FR j (setF X i Z j) mi := fun j hj => by
  unfold setF
  by_cases e : j = i
  · subst e
    rw [if_pos rfl]
    exact hZ
  · rw [if_neg e]
    exact h j hj
set_option maxHeartbeats 4000000 in
theorem step_shape (l : Launch) (hst : l.stackTraces = false) (D : va_G) (k : Nat → ClassId) (v1 : Int32) (v2 : Int32) (v3 : Int32) (v4 : Int32) : StepI l D k yL_shape wsL_shape (fun a0 qo => [.ref a0, .int v1, .int v2, .int v3, .int v4, .ref qo]) yX7_shape wsX7_shape (fun m0 => [.ref m0, .int v1, .int v2, .int v3, .int v4]) := by
  rintro a0 m0 th wb wm ⟨ad, aF, c, Y, G, Ls, len, lat, S, X, bs, bc, bv, bd, Vd, Vf, Vc, x, dr, aM, mi, ml, mz, rfl, rfl, rfl, rfl, rfl, hR⟩
  have hR0 := hR
  obtain ⟨⟨hA, hS, hU, hC⟩, ⟨ln, hln, rfl, hlm, hL⟩, ⟨hc, hcm⟩, hF, ⟨tn, rfl, htm, hT⟩, ⟨x0, hx0, rfl, hxm⟩⟩ := hR
  rcases isI v1 with ⟨i, hi, rfl, hI⟩ | ⟨h5, h6, hI⟩
  · by_cases hb : shapeBad v2 v3 v4
    · have hM := m_shape_bad hi hb (mi 0) (mi 2) (mi 3) (mi 4) (mi 6) (mz 0)
      have hT9 : ∀ sz, vx_Met l yX6_shape wsX6_shape rmTX6_shape (va_Pc [.ref (ad 0 0), .int (nI i), .int v2, .int v3, .int v4] (PreX D k (wU k (ad 0) (ad 1 0) (ad 2 0) (ad 3 0) (ad 4 0) (ad 5 0) (ad 6 0) (fRow c aF) dr (nI c)) sz)) NQ (XQ D k (wU k (ad 0) (ad 1 0) (ad 2 0) (ad 3 0) (ad 4 0) (ad 5 0) (ad 6 0) (fRow c aF) dr (nI c)) sz exA) 1 6 (va_A (wU k (ad 0) (ad 1 0) (ad 2 0) (ad 3 0) (ad 4 0) (ad 5 0) (ad 6 0) (fRow c aF) dr (nI c)) sz) := fun sz => by
        by_cases r2 : v2 < (-999) ∨ ¬ v2 ≤ 999
        · exact thr_X6_shape_1 l hst D k (ad 0) (ad 1 0) (ad 2 0) (ad 3 0) (ad 4 0) (ad 5 0) (ad 6 0) sz (fRow c aF) dr (nI c) (nI i) v2 v3 v4 (ck_I hi) r2
        · by_cases r3 : v3 < 0 ∨ ¬ v3 ≤ 3
          · exact thr_X6_shape_2 l hst D k (ad 0) (ad 1 0) (ad 2 0) (ad 3 0) (ad 4 0) (ad 5 0) (ad 6 0) sz (fRow c aF) dr (nI c) (nI i) v2 v3 v4 (ck_I hi) (ck_R r2) r3
          · have hb2 : v4 < 0 ∨ (if v3 = 0 then (0 : Int32) else 99) < v4 := by
              rcases hb with h | h | h | h | h | h
              · exact absurd (Or.inl h) r2
              · exact absurd (rg.mp (Or.inr h)) r2
              · exact absurd (Or.inl h) r3
              · exact absurd (rg.mp (Or.inr h)) r3
              · exact Or.inl h
              · exact Or.inr h
            by_cases z : v3 = 0
            · rw [if_pos z] at hb2
              exact thr_X6_shape_4 l hst D k (ad 0) (ad 1 0) (ad 2 0) (ad 3 0) (ad 4 0) (ad 5 0) (ad 6 0) sz (fRow c aF) dr (nI c) (nI i) v2 v3 v4 (ck_I hi) (ck_R r2) (ck_R r3) z (rg.mp hb2)
            · rw [if_neg z] at hb2
              exact thr_X6_shape_3 l hst D k (ad 0) (ad 1 0) (ad 2 0) (ad 3 0) (ad 4 0) (ad 5 0) (ad 6 0) sz (fRow c aF) dr (nI c) (nI i) v2 v3 v4 (ck_I hi) (ck_R r2) (ck_R r3) z (rg.mp hb2)
      refine ⟨(2 : Int32), (0 : Int32), (0 : Int64), fun _ => (BW k ad aF c Y G Ls (nI ln) lat S X bs bc bv bd Vd Vf (nI tn) (nI x0) dr), MW k aM mi ml (st mz 0 2), fun _ => ⟨ad, aF, c, Y, G, Ls, (nI ln), lat, S, X, bs, bc, bv, bd, Vd, Vf, (nI tn), (nI x0), dr, aM, mi, ml, (st mz 0 2), rfl, rfl, rfl, rfl, rfl, hR0⟩, bd_x (by decide) ⟨rfl, rfl, Nat.le_of_ble_eq_true rfl, Nat.le_of_ble_eq_true rfl⟩ (fun qo sz => law_shape_x2 l D k _ (ad 0 0) _ rfl qo sz (nI i) v2 v3 v4 (thr_up ((wIc k (ad 1) Y G) ++ ((wL k (ad 2) Ls (nI ln) lat) ++ ((wFc k (ad 3) S) ++ ((wB k (ad 4) bs bc bv bd) ++ ((wV k (ad 5) Vd Vf (nI tn)) ++ ((wC k (ad 6) (nI x0)) ++ (FW k aF X (List.range c)))))))) (fun sz => hT9 sz) (List.Perm.refl _))) 0, ⟨rmX7_shape, ⟨rfl, rfl, Nat.le_of_ble_eq_true rfl, Nat.le_of_ble_eq_true rfl⟩, fun sz => met_X7_shape l D k aM sz (mi 0) (mi 1) (mi 2) (mi 3) (mi 4) (mi 5) (mi 6) (mi 7) (mi 8) (mi 9) (mi 10) (mi 11) (mi 12) (mi 13) (mi 14) (mi 15) (mi 16) (mi 17) (mi 18) (mi 19) (mi 20) (mi 21) (mi 22) (ml 0) (ml 1) (mi 23) (mi 24) (ml 2) (mi 25) (mi 26) (mz 0) (mz 1) (mz 2) (mz 3) (mz 4) (mz 5) (mz 6) (nI i) v2 v3 v4 0 (mi 0) (mi 2) (mi 3) (mi 4) (mi 6) 2 hM⟩, fun q => absurd q (by decide)⟩
    · have hM := m_shape_ok hi hb (mi 0) (mi 2) (mi 3) (mi 4) (mi 6) (mz 0)
      have h2 : ¬ (v2 < (-999) ∨ ¬ v2 ≤ 999) := fun q => hb ((rg.mpr q).elim Or.inl (fun q => Or.inr (Or.inl q)))
      have h3 : ¬ (v3 < 0 ∨ ¬ v3 ≤ 3) := fun q => hb ((rg.mpr q).elim (fun q => Or.inr (Or.inr (Or.inl q))) (fun q => Or.inr (Or.inr (Or.inr (Or.inl q)))))
      have h4 : ¬ (v4 < 0 ∨ (if v3 = 0 then (0 : Int32) else 99) < v4) := fun q => hb (Or.inr (Or.inr (Or.inr (Or.inr q))))
      have hB : fX6_shape (nI i) v2 v3 v4 (Y 0) (Y 1) (Y 2) (Y 3) (Y 4) = some (varOf v3 v4, upd (Y 0) i v2, upd (Y 1) i (varOf v3 v4), upd (Y 2) i v3, upd (Y 3) i v4, upd (Y 4) i 0) := by
        unfold fX6_shape
        rw [ck_I hi, bnd0_s, ck_R h2, bnd0_s, ck_R h3, bnd0_s]
        by_cases z : v3 = 0
        · rw [if_pos z] at h4 ⊢
          unfold BX6_shape_33
          rw [ck_R (fun q => h4 (rg.mpr q)), bnd0_s, c_tellShape hi, bnd6_s]
        · rw [if_neg z] at h4 ⊢
          unfold BX6_shape_33
          rw [ck_R (fun q => h4 (rg.mpr q)), bnd0_s, c_tellShape hi, bnd6_s]
      have hS' : SRel (upd (Y 2) i v3) (upd (Y 3) i v4) (upd (Y 4) i 0) (upd (mi 3) i v4) (mi 5) (G 0) := fun j hj => by
        simp only [upd_at]
        by_cases e : j = i
        · right
          obtain ⟨s, hs, e3⟩ := ix_of (hi := 3) (n := 3) (by decide) (fun q => h3 (Or.inl q)) (fun q => h3 (rg.mp (Or.inr q))) (by omega)
          obtain ⟨w, hw, e4⟩ := ix_of (x := v4) (hi := 99) (n := 99) (by decide) (fun q => h4 (Or.inl q)) (fun q => h4 (Or.inr (by
            by_cases z : v3 = 0
            · rw [if_pos z]
              exact Int32.lt_trans (by decide) q
            · rw [if_neg z]
              exact q))) (by omega)
          refine ⟨s, w, by omega, by omega, ?_⟩
          simp [e, e3, e4]
        · simp only [if_neg e]
          exact hS j hj
      refine ⟨(0 : Int32), varOf v3 v4, (varOf v3 v4).toInt64, fun _ => (BW k ad aF c (st (st (st (st (st Y 0 (upd (Y 0) i v2)) 1 (upd (Y 1) i (varOf v3 v4))) 2 (upd (Y 2) i v3)) 3 (upd (Y 3) i v4)) 4 (upd (Y 4) i 0)) G Ls (nI ln) lat S X bs bc bv bd Vd Vf (nI tn) (nI x0) dr), MW k aM (st (st (st (st (st mi 0 (upd (mi 0) i v2)) 2 (upd (mi 2) i v3)) 3 (upd (mi 3) i v4)) 4 (upd (mi 4) i 0)) 6 (upd (mi 6) i (varOf v3 v4))) ml (st mz 0 0), fun u => ⟨ad, aF, c, (st (st (st (st (st Y 0 (upd (Y 0) i v2)) 1 (upd (Y 1) i (varOf v3 v4))) 2 (upd (Y 2) i v3)) 3 (upd (Y 3) i v4)) 4 (upd (Y 4) i 0)), G, Ls, (nI ln), lat, S, X, bs, bc, bv, bd, Vd, Vf, (nI tn), (nI x0), dr, aM, (st (st (st (st (st mi 0 (upd (mi 0) i v2)) 2 (upd (mi 2) i v3)) 3 (upd (mi 3) i v4)) 4 (upd (mi 4) i 0)) 6 (upd (mi 6) i (varOf v3 v4))), ml, (st mz 0 0), rfl, rfl, rfl, rfl, rfl, ⟨⟨A_upd hA i v2 (varOf v3 v4) v3 0, hS', hU, hC⟩, ⟨ln, hln, rfl, hlm, hL⟩, ⟨hc, hcm⟩, hF, ⟨tn, rfl, htm, hT⟩, ⟨x0, hx0, rfl, hxm⟩⟩⟩, bd_ok 0 0 ⟨rfl, rfl, Nat.le_of_ble_eq_true rfl, Nat.le_of_ble_eq_true rfl, Nat.le_of_ble_eq_true rfl, Nat.le_of_ble_eq_true rfl⟩ (fun qo f sz => law_shape_ok l D k _ _ (ad 0 0) _ rfl qo f sz (nI i) v2 v3 v4 (varOf v3 v4) (met_upI ((wL k (ad 2) Ls (nI ln) lat) ++ ((wFc k (ad 3) S) ++ ((wB k (ad 4) bs bc bv bd) ++ ((wV k (ad 5) Vd Vf (nI tn)) ++ ((wC k (ad 6) (nI x0)) ++ (FW k aF X (List.range c))))))) (met_gI (fun sz => met_X6_shape l D k (ad 2 0) (ad 3 0) (ad 4 0) (ad 5 0) (ad 6 0) (ad 0) (ad 1) sz (fRow c aF) dr (nI c) (Y 0) (Y 1) (Y 2) (Y 3) (Y 4) (G 0) (Y 5) (Y 6) (G 1) (nI i) v2 v3 v4 _ _ _ _ _ _ hB)) pmUI (fun _ => pmUI))), ⟨rmX7_shape, ⟨rfl, rfl, Nat.le_of_ble_eq_true rfl, Nat.le_of_ble_eq_true rfl⟩, fun sz => met_X7_shape l D k aM sz (mi 0) (mi 1) (mi 2) (mi 3) (mi 4) (mi 5) (mi 6) (mi 7) (mi 8) (mi 9) (mi 10) (mi 11) (mi 12) (mi 13) (mi 14) (mi 15) (mi 16) (mi 17) (mi 18) (mi 19) (mi 20) (mi 21) (mi 22) (ml 0) (ml 1) (mi 23) (mi 24) (ml 2) (mi 25) (mi 26) (mz 0) (mz 1) (mz 2) (mz 3) (mz 4) (mz 5) (mz 6) (nI i) v2 v3 v4 (varOf v3 v4) (upd (mi 0) i v2) (upd (mi 2) i v3) (upd (mi 3) i v4) (upd (mi 4) i 0) (upd (mi 6) i (varOf v3 v4)) 0 hM⟩, fun _ => rfl⟩
  · have hM := m_shape_in v1 h5 v2 v3 v4 (mi 0) (mi 2) (mi 3) (mi 4) (mi 6) (mz 0)
    refine ⟨(1 : Int32), (0 : Int32), (0 : Int64), fun _ => (BW k ad aF c Y G Ls (nI ln) lat S X bs bc bv bd Vd Vf (nI tn) (nI x0) dr), MW k aM mi ml (st mz 0 1), fun _ => ⟨ad, aF, c, Y, G, Ls, (nI ln), lat, S, X, bs, bc, bv, bd, Vd, Vf, (nI tn), (nI x0), dr, aM, mi, ml, (st mz 0 1), rfl, rfl, rfl, rfl, rfl, hR0⟩, bd_x (by decide) ⟨rfl, rfl, Nat.le_of_ble_eq_true rfl, Nat.le_of_ble_eq_true rfl⟩ (fun qo sz => law_shape_x1 l D k _ (ad 0 0) _ rfl qo sz v1 v2 v3 v4 (thr_up ((wIc k (ad 1) Y G) ++ ((wL k (ad 2) Ls (nI ln) lat) ++ ((wFc k (ad 3) S) ++ ((wB k (ad 4) bs bc bv bd) ++ ((wV k (ad 5) Vd Vf (nI tn)) ++ ((wC k (ad 6) (nI x0)) ++ (FW k aF X (List.range c)))))))) (fun sz => thr_X6_shape_0 l hst D k (ad 0) (ad 1 0) (ad 2 0) (ad 3 0) (ad 4 0) (ad 5 0) (ad 6 0) sz (fRow c aF) dr (nI c) v1 v2 v3 v4 h6) (List.Perm.refl _))) 0, ⟨rmX7_shape, ⟨rfl, rfl, Nat.le_of_ble_eq_true rfl, Nat.le_of_ble_eq_true rfl⟩, fun sz => met_X7_shape l D k aM sz (mi 0) (mi 1) (mi 2) (mi 3) (mi 4) (mi 5) (mi 6) (mi 7) (mi 8) (mi 9) (mi 10) (mi 11) (mi 12) (mi 13) (mi 14) (mi 15) (mi 16) (mi 17) (mi 18) (mi 19) (mi 20) (mi 21) (mi 22) (ml 0) (ml 1) (mi 23) (mi 24) (ml 2) (mi 25) (mi 26) (mz 0) (mz 1) (mz 2) (mz 3) (mz 4) (mz 5) (mz 6) v1 v2 v3 v4 0 (mi 0) (mi 2) (mi 3) (mi 4) (mi 6) 1 hM⟩, fun q => absurd q (by decide)⟩
