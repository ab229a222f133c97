set_option maxHeartbeats 4000000 in
theorem step_read (l : Launch) (hst : l.stackTraces = false) (D : va_G) (k : Nat → ClassId) (v1 : Int32) (v2 : Int32) : StepI l D k yL_read wsL_read (fun a0 qo => [.ref a0, .int v1, .int v2, .ref qo]) yX7_read wsX7_read (fun m0 => [.ref m0, .int v1, .int v2]) := by
  rintro a0 m0 th wb wm ⟨ad, aF, c, Y, G, Ls, len, lat, S, X, bs, bc, bv, bd, Vd, Vf, Vc, x, dr, aM, mi, ml, mz, rfl, rfl, rfl, rfl, rfl, hR⟩
  have hR0 := hR
  obtain ⟨⟨hA, hS, hU, hC⟩, ⟨ln, hln, rfl, hlm, hL⟩, ⟨hc, hcm⟩, hF, ⟨tn, rfl, htm, hT⟩, ⟨x0, hx0, rfl, hxm⟩⟩ := hR
  have bad : ∀ (a s : Int32), ¬ s = 0 → BX7_read_47 a v2 s (mi 0) (mi 2) (mi 3) (mi 4) (mi 5) (mi 6) (mz 0) = some (0, (mi 0), (mi 2), (mi 3), (mi 4), (mi 5), (mi 6), s) := fun a s hs => by
    unfold BX7_read_47
    rw [holds_eq, bnd2_s, if_neg hs, if_pos rfl]
  rcases isI v1 with ⟨i, hi, rfl, hI⟩ | ⟨h5, h6, hI⟩
  · by_cases r2 : v2 < (-999) ∨ ¬ v2 ≤ 999
    · have hM : fX7_read (nI i) v2 (mi 0) (mi 2) (mi 3) (mi 4) (mi 5) (mi 6) (mz 0) = some (0, (mi 0), (mi 2), (mi 3), (mi 4), (mi 5), (mi 6), 2) := by
        unfold fX7_read
        rw [hI, bnd1_s, if_neg n10, isIn_eq, if_pos (rg.mpr r2), bnd1_s, if_pos rfl]
        exact bad (nI i) 2 n20
      refine ⟨(2 : Int32), (0 : Int32), (0 : Int64), fun _ => (BW k ad aF c Y G Ls (nI ln) lat S X bs bc bv bd Vd Vf (nI tn) (nI x0) dr), MW k aM mi ml (st mz 0 2), fun _ => ⟨ad, aF, c, Y, G, Ls, (nI ln), lat, S, X, bs, bc, bv, bd, Vd, Vf, (nI tn), (nI x0), dr, aM, mi, ml, (st mz 0 2), rfl, rfl, rfl, rfl, rfl, hR0⟩, bd_x (by decide) ⟨rfl, rfl, Nat.le_of_ble_eq_true rfl, Nat.le_of_ble_eq_true rfl⟩ (fun qo sz => law_read_x2 l D k _ (ad 0 0) _ rfl qo sz (nI i) v2 (thr_up ((wL k (ad 2) Ls (nI ln) lat) ++ ((wFc k (ad 3) S) ++ ((wB k (ad 4) bs bc bv bd) ++ ((wV k (ad 5) Vd Vf (nI tn)) ++ ((wC k (ad 6) (nI x0)) ++ (FW k aF X (List.range c))))))) (fun sz => thr_X6_read_1 l hst D k (ad 0) (ad 1) (ad 2 0) (ad 3 0) (ad 4 0) (ad 5 0) (ad 6 0) sz (fRow c aF) dr (nI c) (Y 0) (Y 1) (Y 2) (Y 3) (Y 4) (G 0) (Y 5) (Y 6) (G 1) (nI i) v2 (ck_I hi) r2) pmUI)) 0, ⟨rmX7_read, ⟨rfl, rfl, Nat.le_of_ble_eq_true rfl, Nat.le_of_ble_eq_true rfl⟩, fun sz => met_X7_read l D k aM sz (mi 0) (mi 1) (mi 2) (mi 3) (mi 4) (mi 5) (mi 6) (mi 7) (mi 8) (mi 9) (mi 10) (mi 11) (mi 12) (mi 13) (mi 14) (mi 15) (mi 16) (mi 17) (mi 18) (mi 19) (mi 20) (mi 21) (mi 22) (ml 0) (ml 1) (mi 23) (mi 24) (ml 2) (mi 25) (mi 26) (mz 0) (mz 1) (mz 2) (mz 3) (mz 4) (mz 5) (mz 6) (nI i) v2 0 (mi 0) (mi 2) (mi 3) (mi 4) (mi 5) (mi 6) 2 hM⟩, fun q => absurd q (by decide)⟩
    · obtain ⟨a1, a2, a3, a4⟩ := hA i hi
      have hcl := clamp_n (show i < 2 ^ 31 by omega)
      have hcase : (∃ c', c' ≤ 7 ∧ (Y 4) i = nI c' ∧ ∀ k', k' < c' → (G 0) i k' = (mi 5) (8 * i + k') ∧ smallR ((G 0) i k')) ∨ (Y 4) i = 8 := by
        rcases hS i hi with ⟨s1, c', s2, s3, s4, s5⟩ | ⟨s', w', s1, s2, s3, s4, s5, s6⟩
        · by_cases h8 : c' = 8
          · subst h8
            exact Or.inr s4
          · exact Or.inl ⟨c', by omega, s4, s5⟩
        · exact Or.inl ⟨0, by omega, s4, fun k' hk' => absurd hk' (Nat.not_lt_zero _)⟩
      have hm : fX7_read (nI i) v2 (mi 0) (mi 2) (mi 3) (mi 4) (mi 5) (mi 6) (mz 0) = if (mi 4) i = 8 then BX7_read_47 (nI i) v2 3 (mi 0) (mi 2) (mi 3) (mi 4) (mi 5) (mi 6) (mz 0) else BX7_read_47 (nI i) v2 0 (mi 0) (mi 2) (mi 3) (mi 4) (mi 5) (mi 6) (mz 0) := by
        unfold fX7_read
        rw [hI, bnd1_s, if_neg n10, isIn_eq, if_neg (fun q => r2 (rg.mp q)), bnd1_s, if_neg n10, gi_n hi (by omega), hcl]
      rcases hcase with ⟨c', hc7, hC4, hR4⟩ | h8
      · have hv : smallR v2 := by
          have h1 : ¬ v2 < (-999) := fun q => r2 (Or.inl q)
          have h2 : v2 ≤ 999 := Decidable.not_not.mp (fun q => r2 (Or.inr q))
          rw [lt_i] at h1
          rw [le_i] at h2
          have z1 : (-999 : Int32).toInt = -999 := by decide
          have z2 : (999 : Int32).toInt = 999 := by decide
          exact ⟨by omega, by omega⟩
        obtain ⟨q, a, e1, e2⟩ := read_same hi hv hc7 hC4 (a4.trans hC4) hR4 (Y 0) (Y 1) (Y 2) (mi 0) (mi 2) (mi 3) (mi 6) (mz 0)
        have hM : fX7_read (nI i) v2 (mi 0) (mi 2) (mi 3) (mi 4) (mi 5) (mi 6) (mz 0) = some (a, upd (mi 0) i q, upd (mi 2) i 4, upd (mi 3) i 0, upd (mi 4) i (nI (c' + 1)), upd (mi 5) (8 * i + c') v2, upd (mi 6) i a, 0) := by
          rw [hm, a4, hC4, if_neg (fun y => by have := (nI_eq (b := 8) (by omega) (by omega)).mp y; omega)]
          exact e2
        have hB : fX6_read (nI i) v2 (Y 0) (Y 1) (Y 2) (Y 4) (G 0) = some (a, upd (Y 0) i q, upd (Y 1) i a, upd (Y 2) i 4, upd (Y 4) i (nI (c' + 1)), upd2 (G 0) i c' v2) := by
          unfold fX6_read
          rw [ck_I hi, bnd0_s, ck_R r2, bnd0_s, gi_n hi (by omega), hcl, hC4, if_pos (show nI c' < 8 from (nI_ltI (b := 8) (by omega) (by omega)).mpr (by omega)), e1, bnd6_s]
        have hS' : SRel (upd (Y 2) i 4) (Y 3) (upd (Y 4) i (nI (c' + 1))) (upd (mi 3) i 0) (upd (mi 5) (8 * i + c') v2) (upd2 (G 0) i c' v2) := fun j hj => by
          simp only [upd_at]
          by_cases e : j = i
          · subst e
            left
            simp only [if_true]
            refine ⟨trivial, c' + 1, by omega, by omega, rfl, fun k' hk' => ?_⟩
            rw [upd2_at, if_pos rfl]
            by_cases ek : k' = c'
            · subst ek
              rw [if_pos rfl, if_pos rfl]
              exact ⟨rfl, hv⟩
            · rw [if_neg ek, if_neg (by omega)]
              exact hR4 k' (by omega)
          · simp only [if_neg e]
            rcases hS j hj with ⟨s1, d, s2, s3, s4, s5⟩ | h
            · left
              refine ⟨s1, d, s2, s3, s4, fun k' hk' => ?_⟩
              rw [upd2_at, if_neg e, if_neg (by omega)]
              exact s5 k' hk'
            · exact Or.inr h
        refine ⟨(0 : Int32), a, (a).toInt64, fun _ => (BW k ad aF c (st (st (st (st Y 0 (upd (Y 0) i q)) 1 (upd (Y 1) i a)) 2 (upd (Y 2) i 4)) 4 (upd (Y 4) i (nI (c' + 1)))) (st G 0 (upd2 (G 0) i c' v2)) Ls (nI ln) lat S X bs bc bv bd Vd Vf (nI tn) (nI x0) dr), MW k aM (st (st (st (st (st (st mi 0 (upd (mi 0) i q)) 2 (upd (mi 2) i 4)) 3 (upd (mi 3) i 0)) 4 (upd (mi 4) i (nI (c' + 1)))) 5 (upd (mi 5) (8 * i + c') v2)) 6 (upd (mi 6) i a)) ml (st mz 0 0), fun u => ⟨ad, aF, c, (st (st (st (st Y 0 (upd (Y 0) i q)) 1 (upd (Y 1) i a)) 2 (upd (Y 2) i 4)) 4 (upd (Y 4) i (nI (c' + 1)))), (st G 0 (upd2 (G 0) i c' v2)), Ls, (nI ln), lat, S, X, bs, bc, bv, bd, Vd, Vf, (nI tn), (nI x0), dr, aM, (st (st (st (st (st (st mi 0 (upd (mi 0) i q)) 2 (upd (mi 2) i 4)) 3 (upd (mi 3) i 0)) 4 (upd (mi 4) i (nI (c' + 1)))) 5 (upd (mi 5) (8 * i + c') v2)) 6 (upd (mi 6) i a)), ml, (st mz 0 0), rfl, rfl, rfl, rfl, rfl, ⟨⟨A_upd hA i q a 4 (nI (c' + 1)), hS', hU, hC⟩, ⟨ln, hln, rfl, hlm, hL⟩, ⟨hc, hcm⟩, hF, ⟨tn, rfl, htm, hT⟩, ⟨x0, hx0, rfl, hxm⟩⟩⟩, bd_ok 0 0 ⟨rfl, rfl, Nat.le_of_ble_eq_true rfl, Nat.le_of_ble_eq_true rfl, Nat.le_of_ble_eq_true rfl, Nat.le_of_ble_eq_true rfl⟩ (fun qo f sz => law_read_ok l D k _ _ (ad 0 0) _ rfl qo f sz (nI i) v2 a (met_upI ((wL k (ad 2) Ls (nI ln) lat) ++ ((wFc k (ad 3) S) ++ ((wB k (ad 4) bs bc bv bd) ++ ((wV k (ad 5) Vd Vf (nI tn)) ++ ((wC k (ad 6) (nI x0)) ++ (FW k aF X (List.range c))))))) (met_gI (fun sz => met_X6_read l D k (ad 2 0) (ad 3 0) (ad 4 0) (ad 5 0) (ad 6 0) (ad 0) (ad 1) sz (fRow c aF) dr (nI c) (Y 0) (Y 1) (Y 2) (Y 3) (Y 4) (G 0) (Y 5) (Y 6) (G 1) (nI i) v2 _ _ _ _ _ _ hB)) pmUI (fun _ => pmUI))), ⟨rmX7_read, ⟨rfl, rfl, Nat.le_of_ble_eq_true rfl, Nat.le_of_ble_eq_true rfl⟩, fun sz => met_X7_read l D k aM sz (mi 0) (mi 1) (mi 2) (mi 3) (mi 4) (mi 5) (mi 6) (mi 7) (mi 8) (mi 9) (mi 10) (mi 11) (mi 12) (mi 13) (mi 14) (mi 15) (mi 16) (mi 17) (mi 18) (mi 19) (mi 20) (mi 21) (mi 22) (ml 0) (ml 1) (mi 23) (mi 24) (ml 2) (mi 25) (mi 26) (mz 0) (mz 1) (mz 2) (mz 3) (mz 4) (mz 5) (mz 6) (nI i) v2 a (upd (mi 0) i q) (upd (mi 2) i 4) (upd (mi 3) i 0) (upd (mi 4) i (nI (c' + 1))) (upd (mi 5) (8 * i + c') v2) (upd (mi 6) i a) 0 hM⟩, fun _ => rfl⟩
      · have hM : fX7_read (nI i) v2 (mi 0) (mi 2) (mi 3) (mi 4) (mi 5) (mi 6) (mz 0) = some (0, (mi 0), (mi 2), (mi 3), (mi 4), (mi 5), (mi 6), 3) := by
          rw [hm, a4, h8, if_pos rfl]
          exact bad (nI i) 3 (by decide)
        have h8' : ¬ (Y 4) (nI i).toNatClampNeg < 8 := by
          rw [hcl, h8]
          decide
        refine ⟨(3 : Int32), (0 : Int32), (0 : Int64), fun _ => (BW k ad aF c Y G Ls (nI ln) lat S X bs bc bv bd Vd Vf (nI tn) (nI x0) dr), MW k aM mi ml (st mz 0 3), fun _ => ⟨ad, aF, c, Y, G, Ls, (nI ln), lat, S, X, bs, bc, bv, bd, Vd, Vf, (nI tn), (nI x0), dr, aM, mi, ml, (st mz 0 3), rfl, rfl, rfl, rfl, rfl, hR0⟩, bd_x (by decide) ⟨rfl, rfl, Nat.le_of_ble_eq_true rfl, Nat.le_of_ble_eq_true rfl⟩ (fun qo sz => law_read_x3 l D k _ (ad 0 0) _ rfl qo sz (nI i) v2 (thr_up ((wL k (ad 2) Ls (nI ln) lat) ++ ((wFc k (ad 3) S) ++ ((wB k (ad 4) bs bc bv bd) ++ ((wV k (ad 5) Vd Vf (nI tn)) ++ ((wC k (ad 6) (nI x0)) ++ (FW k aF X (List.range c))))))) (fun sz => thr_X6_read_2 l hst D k (ad 0) (ad 1) (ad 2 0) (ad 3 0) (ad 4 0) (ad 5 0) (ad 6 0) sz (fRow c aF) dr (nI c) (Y 0) (Y 1) (Y 2) (Y 3) (Y 4) (G 0) (Y 5) (Y 6) (G 1) (nI i) v2 (ck_I hi) (ck_R r2) (vin6 hi) h8') pmUI)) 0, ⟨rmX7_read, ⟨rfl, rfl, Nat.le_of_ble_eq_true rfl, Nat.le_of_ble_eq_true rfl⟩, fun sz => met_X7_read l D k aM sz (mi 0) (mi 1) (mi 2) (mi 3) (mi 4) (mi 5) (mi 6) (mi 7) (mi 8) (mi 9) (mi 10) (mi 11) (mi 12) (mi 13) (mi 14) (mi 15) (mi 16) (mi 17) (mi 18) (mi 19) (mi 20) (mi 21) (mi 22) (ml 0) (ml 1) (mi 23) (mi 24) (ml 2) (mi 25) (mi 26) (mz 0) (mz 1) (mz 2) (mz 3) (mz 4) (mz 5) (mz 6) (nI i) v2 0 (mi 0) (mi 2) (mi 3) (mi 4) (mi 5) (mi 6) 3 hM⟩, fun q => absurd q (by decide)⟩
  · have hM : fX7_read v1 v2 (mi 0) (mi 2) (mi 3) (mi 4) (mi 5) (mi 6) (mz 0) = some (0, (mi 0), (mi 2), (mi 3), (mi 4), (mi 5), (mi 6), 1) := by
      unfold fX7_read
      rw [hI, bnd1_s, if_pos rfl]
      exact bad v1 1 n10
    refine ⟨(1 : Int32), (0 : Int32), (0 : Int64), fun _ => (BW k ad aF c Y G Ls (nI ln) lat S X bs bc bv bd Vd Vf (nI tn) (nI x0) dr), MW k aM mi ml (st mz 0 1), fun _ => ⟨ad, aF, c, Y, G, Ls, (nI ln), lat, S, X, bs, bc, bv, bd, Vd, Vf, (nI tn), (nI x0), dr, aM, mi, ml, (st mz 0 1), rfl, rfl, rfl, rfl, rfl, hR0⟩, bd_x (by decide) ⟨rfl, rfl, Nat.le_of_ble_eq_true rfl, Nat.le_of_ble_eq_true rfl⟩ (fun qo sz => law_read_x1 l D k _ (ad 0 0) _ rfl qo sz v1 v2 (thr_up ((wL k (ad 2) Ls (nI ln) lat) ++ ((wFc k (ad 3) S) ++ ((wB k (ad 4) bs bc bv bd) ++ ((wV k (ad 5) Vd Vf (nI tn)) ++ ((wC k (ad 6) (nI x0)) ++ (FW k aF X (List.range c))))))) (fun sz => thr_X6_read_0 l hst D k (ad 0) (ad 1) (ad 2 0) (ad 3 0) (ad 4 0) (ad 5 0) (ad 6 0) sz (fRow c aF) dr (nI c) (Y 0) (Y 1) (Y 2) (Y 3) (Y 4) (G 0) (Y 5) (Y 6) (G 1) v1 v2 h6) pmUI)) 0, ⟨rmX7_read, ⟨rfl, rfl, Nat.le_of_ble_eq_true rfl, Nat.le_of_ble_eq_true rfl⟩, fun sz => met_X7_read l D k aM sz (mi 0) (mi 1) (mi 2) (mi 3) (mi 4) (mi 5) (mi 6) (mi 7) (mi 8) (mi 9) (mi 10) (mi 11) (mi 12) (mi 13) (mi 14) (mi 15) (mi 16) (mi 17) (mi 18) (mi 19) (mi 20) (mi 21) (mi 22) (ml 0) (ml 1) (mi 23) (mi 24) (ml 2) (mi 25) (mi 26) (mz 0) (mz 1) (mz 2) (mz 3) (mz 4) (mz 5) (mz 6) v1 v2 0 (mi 0) (mi 2) (mi 3) (mi 4) (mi 5) (mi 6) 1 hM⟩, fun q => absurd q (by decide)⟩
set_option maxHeartbeats 4000000 in
theorem step_together (l : Launch) (hst : l.stackTraces = false) (D : va_G) (k : Nat → ClassId) (v1 : Int32) (v2 : Int32) (v3 : Int32) : StepI l D k yL_together wsL_together (fun a0 qo => [.ref a0, .int v1, .int v2, .int v3, .ref qo]) yX7_together wsX7_together (fun m0 => [.ref m0, .int v1, .int v2, .int v3]) := by
  rintro a0 m0 th wb wm ⟨ad, aF, c, Y, G, Ls, len, lat, S, X, bs, bc, bv, bd, Vd, Vf, Vc, x, dr, aM, mi, ml, mz, rfl, rfl, rfl, rfl, rfl, hR⟩
  have hR0 := hR
  obtain ⟨⟨hA, hS, hU, hC⟩, ⟨ln, hln, rfl, hlm, hL⟩, ⟨hc, hcm⟩, hF, ⟨tn, rfl, htm, hT⟩, ⟨x0, hx0, rfl, hxm⟩⟩ := hR
  rcases isI v1 with ⟨i, hi, rfl, hI⟩ | ⟨h5, h6, hI⟩
  · rcases isI v2 with ⟨o, ho, rfl, hO⟩ | ⟨g5, g6, hO⟩
    · by_cases hb : nI i = nI o ∨ v3 < -9999 ∨ 9999 < v3
      · have hM := m_together_bad (in_n hi) (in_n ho) hb (mi 7) (mz 0)
        have hT9 : ∀ sz, vx_Met l yX6_together wsX6_together rmTX6_together (va_Pc [.ref (ad 0 0), .int (nI i), .int (nI o), .int v3] (PreX D k (wU k (ad 0) (ad 1 0) (ad 2 0) (ad 3 0) (ad 4 0) (ad 5 0) (ad 6 0) (fRow c aF) dr (nI c)) sz)) NQ (XQ D k (wU k (ad 0) (ad 1 0) (ad 2 0) (ad 3 0) (ad 4 0) (ad 5 0) (ad 6 0) (fRow c aF) dr (nI c)) sz exA) 1 6 (va_A (wU k (ad 0) (ad 1 0) (ad 2 0) (ad 3 0) (ad 4 0) (ad 5 0) (ad 6 0) (fRow c aF) dr (nI c)) sz) := fun sz => by
          by_cases r3 : v3 < (-9999) ∨ ¬ v3 ≤ 9999
          · exact thr_X6_together_2 l hst D k (ad 0) (ad 1 0) (ad 2 0) (ad 3 0) (ad 4 0) (ad 5 0) (ad 6 0) sz (fRow c aF) dr (nI c) (nI i) (nI o) v3 (ck_I hi) (ck_I ho) r3
          · exact thr_X6_together_3 l hst D k (ad 0) (ad 1 0) (ad 2 0) (ad 3 0) (ad 4 0) (ad 5 0) (ad 6 0) sz (fRow c aF) dr (nI c) (nI i) (nI o) v3 (ck_I hi) (ck_I ho) (ck_R r3) (hb.elim id (fun q => absurd (rg.mp q) r3))
        refine ⟨(2 : Int32), (0 : Int32), (0 : Int64), fun _ => (BW k ad aF c Y G Ls (nI ln) lat S X bs bc bv bd Vd Vf (nI tn) (nI x0) dr), MW k aM mi ml (st mz 0 2), fun _ => ⟨ad, aF, c, Y, G, Ls, (nI ln), lat, S, X, bs, bc, bv, bd, Vd, Vf, (nI tn), (nI x0), dr, aM, mi, ml, (st mz 0 2), rfl, rfl, rfl, rfl, rfl, hR0⟩, bd_x (by decide) ⟨rfl, rfl, Nat.le_of_ble_eq_true rfl, Nat.le_of_ble_eq_true rfl⟩ (fun qo sz => law_together_x2 l D k _ (ad 0 0) _ rfl qo sz (nI i) (nI o) v3 (thr_up ((wIc k (ad 1) Y G) ++ ((wL k (ad 2) Ls (nI ln) lat) ++ ((wFc k (ad 3) S) ++ ((wB k (ad 4) bs bc bv bd) ++ ((wV k (ad 5) Vd Vf (nI tn)) ++ ((wC k (ad 6) (nI x0)) ++ (FW k aF X (List.range c)))))))) (fun sz => hT9 sz) (List.Perm.refl _))) 0, ⟨rmX7_together, ⟨rfl, rfl, Nat.le_of_ble_eq_true rfl, Nat.le_of_ble_eq_true rfl⟩, fun sz => met_X7_together l D k aM sz (mi 0) (mi 1) (mi 2) (mi 3) (mi 4) (mi 5) (mi 6) (mi 7) (mi 8) (mi 9) (mi 10) (mi 11) (mi 12) (mi 13) (mi 14) (mi 15) (mi 16) (mi 17) (mi 18) (mi 19) (mi 20) (mi 21) (mi 22) (ml 0) (ml 1) (mi 23) (mi 24) (ml 2) (mi 25) (mi 26) (mz 0) (mz 1) (mz 2) (mz 3) (mz 4) (mz 5) (mz 6) (nI i) (nI o) v3 0 (mi 7) 2 hM⟩, fun q => absurd q (by decide)⟩
      · have hne : ¬ i = o := fun q => hb (Or.inl (by rw [q]))
        have h3 : ¬ (v3 < (-9999) ∨ ¬ v3 ≤ 9999) := fun q => hb (Or.inr (rg.mpr q))
        have hM := m_together_ok hi ho hne (fun q => hb (Or.inr q)) (mi 7) (mz 0)
        have hB : fX6_together (nI i) (nI o) v3 (G 1) = some ((mi 7) (6 * i + o), upd2 (upd2 (G 1) i o v3) o i v3) := by
          unfold fX6_together
          rw [ck_I hi, bnd0_s, ck_I ho, bnd0_s, ck_R h3, bnd0_s, if_neg (fun q => hb (Or.inl q)), c_together hi ho, bnd2_s, (hC i o hi ho).1]
        refine ⟨(0 : Int32), (mi 7) (6 * i + o), ((mi 7) (6 * i + o)).toInt64, fun _ => (BW k ad aF c Y (st G 1 (upd2 (upd2 (G 1) i o v3) o i v3)) Ls (nI ln) lat S X bs bc bv bd Vd Vf (nI tn) (nI x0) dr), MW k aM (st mi 7 (upd (upd (mi 7) (6 * i + o) v3) (6 * o + i) v3)) ml (st mz 0 0), fun u => ⟨ad, aF, c, Y, (st G 1 (upd2 (upd2 (G 1) i o v3) o i v3)), Ls, (nI ln), lat, S, X, bs, bc, bv, bd, Vd, Vf, (nI tn), (nI x0), dr, aM, (st mi 7 (upd (upd (mi 7) (6 * i + o) v3) (6 * o + i) v3)), ml, (st mz 0 0), rfl, rfl, rfl, rfl, rfl, ⟨⟨hA, hS, hU, CRel_upd hC hi ho v3⟩, ⟨ln, hln, rfl, hlm, hL⟩, ⟨hc, hcm⟩, hF, ⟨tn, rfl, htm, hT⟩, ⟨x0, hx0, rfl, hxm⟩⟩⟩, bd_ok 0 0 ⟨rfl, rfl, Nat.le_of_ble_eq_true rfl, Nat.le_of_ble_eq_true rfl, Nat.le_of_ble_eq_true rfl, Nat.le_of_ble_eq_true rfl⟩ (fun qo f sz => law_together_ok l D k _ _ (ad 0 0) _ rfl qo f sz (nI i) (nI o) v3 ((mi 7) (6 * i + o)) (met_upI ((wL k (ad 2) Ls (nI ln) lat) ++ ((wFc k (ad 3) S) ++ ((wB k (ad 4) bs bc bv bd) ++ ((wV k (ad 5) Vd Vf (nI tn)) ++ ((wC k (ad 6) (nI x0)) ++ (FW k aF X (List.range c))))))) (met_gI (fun sz => met_X6_together l D k (ad 2 0) (ad 3 0) (ad 4 0) (ad 5 0) (ad 6 0) (ad 0) (ad 1) sz (fRow c aF) dr (nI c) (Y 0) (Y 1) (Y 2) (Y 3) (Y 4) (G 0) (Y 5) (Y 6) (G 1) (nI i) (nI o) v3 _ _ hB)) pmUI (fun _ => pmUI))), ⟨rmX7_together, ⟨rfl, rfl, Nat.le_of_ble_eq_true rfl, Nat.le_of_ble_eq_true rfl⟩, fun sz => met_X7_together l D k aM sz (mi 0) (mi 1) (mi 2) (mi 3) (mi 4) (mi 5) (mi 6) (mi 7) (mi 8) (mi 9) (mi 10) (mi 11) (mi 12) (mi 13) (mi 14) (mi 15) (mi 16) (mi 17) (mi 18) (mi 19) (mi 20) (mi 21) (mi 22) (ml 0) (ml 1) (mi 23) (mi 24) (ml 2) (mi 25) (mi 26) (mz 0) (mz 1) (mz 2) (mz 3) (mz 4) (mz 5) (mz 6) (nI i) (nI o) v3 ((mi 7) (6 * i + o)) (upd (upd (mi 7) (6 * i + o) v3) (6 * o + i) v3) 0 hM⟩, fun _ => rfl⟩
    · have hM := m_together_in (a := nI i) (b := v2) (Or.inr g5) v3 (mi 7) (mz 0)
      refine ⟨(1 : Int32), (0 : Int32), (0 : Int64), fun _ => (BW k ad aF c Y G Ls (nI ln) lat S X bs bc bv bd Vd Vf (nI tn) (nI x0) dr), MW k aM mi ml (st mz 0 1), fun _ => ⟨ad, aF, c, Y, G, Ls, (nI ln), lat, S, X, bs, bc, bv, bd, Vd, Vf, (nI tn), (nI x0), dr, aM, mi, ml, (st mz 0 1), rfl, rfl, rfl, rfl, rfl, hR0⟩, bd_x (by decide) ⟨rfl, rfl, Nat.le_of_ble_eq_true rfl, Nat.le_of_ble_eq_true rfl⟩ (fun qo sz => law_together_x1 l D k _ (ad 0 0) _ rfl qo sz (nI i) v2 v3 (thr_up ((wIc k (ad 1) Y G) ++ ((wL k (ad 2) Ls (nI ln) lat) ++ ((wFc k (ad 3) S) ++ ((wB k (ad 4) bs bc bv bd) ++ ((wV k (ad 5) Vd Vf (nI tn)) ++ ((wC k (ad 6) (nI x0)) ++ (FW k aF X (List.range c)))))))) (fun sz => thr_X6_together_1 l hst D k (ad 0) (ad 1 0) (ad 2 0) (ad 3 0) (ad 4 0) (ad 5 0) (ad 6 0) sz (fRow c aF) dr (nI c) (nI i) v2 v3 (ck_I hi) g6) (List.Perm.refl _))) 0, ⟨rmX7_together, ⟨rfl, rfl, Nat.le_of_ble_eq_true rfl, Nat.le_of_ble_eq_true rfl⟩, fun sz => met_X7_together l D k aM sz (mi 0) (mi 1) (mi 2) (mi 3) (mi 4) (mi 5) (mi 6) (mi 7) (mi 8) (mi 9) (mi 10) (mi 11) (mi 12) (mi 13) (mi 14) (mi 15) (mi 16) (mi 17) (mi 18) (mi 19) (mi 20) (mi 21) (mi 22) (ml 0) (ml 1) (mi 23) (mi 24) (ml 2) (mi 25) (mi 26) (mz 0) (mz 1) (mz 2) (mz 3) (mz 4) (mz 5) (mz 6) (nI i) v2 v3 0 (mi 7) 1 hM⟩, fun q => absurd q (by decide)⟩
  · have hM := m_together_in (a := v1) (b := v2) (Or.inl h5) v3 (mi 7) (mz 0)
    refine ⟨(1 : Int32), (0 : Int32), (0 : Int64), fun _ => (BW k ad aF c Y G Ls (nI ln) lat S X bs bc bv bd Vd Vf (nI tn) (nI x0) dr), MW k aM mi ml (st mz 0 1), fun _ => ⟨ad, aF, c, Y, G, Ls, (nI ln), lat, S, X, bs, bc, bv, bd, Vd, Vf, (nI tn), (nI x0), dr, aM, mi, ml, (st mz 0 1), rfl, rfl, rfl, rfl, rfl, hR0⟩, bd_x (by decide) ⟨rfl, rfl, Nat.le_of_ble_eq_true rfl, Nat.le_of_ble_eq_true rfl⟩ (fun qo sz => law_together_x1 l D k _ (ad 0 0) _ rfl qo sz v1 v2 v3 (thr_up ((wIc k (ad 1) Y G) ++ ((wL k (ad 2) Ls (nI ln) lat) ++ ((wFc k (ad 3) S) ++ ((wB k (ad 4) bs bc bv bd) ++ ((wV k (ad 5) Vd Vf (nI tn)) ++ ((wC k (ad 6) (nI x0)) ++ (FW k aF X (List.range c)))))))) (fun sz => thr_X6_together_0 l hst D k (ad 0) (ad 1 0) (ad 2 0) (ad 3 0) (ad 4 0) (ad 5 0) (ad 6 0) sz (fRow c aF) dr (nI c) v1 v2 v3 h6) (List.Perm.refl _))) 0, ⟨rmX7_together, ⟨rfl, rfl, Nat.le_of_ble_eq_true rfl, Nat.le_of_ble_eq_true rfl⟩, fun sz => met_X7_together l D k aM sz (mi 0) (mi 1) (mi 2) (mi 3) (mi 4) (mi 5) (mi 6) (mi 7) (mi 8) (mi 9) (mi 10) (mi 11) (mi 12) (mi 13) (mi 14) (mi 15) (mi 16) (mi 17) (mi 18) (mi 19) (mi 20) (mi 21) (mi 22) (ml 0) (ml 1) (mi 23) (mi 24) (ml 2) (mi 25) (mi 26) (mz 0) (mz 1) (mz 2) (mz 3) (mz 4) (mz 5) (mz 6) v1 v2 v3 0 (mi 7) 1 hM⟩, fun q => absurd q (by decide)⟩
set_option maxHeartbeats 4000000 in
theorem step_input (l : Launch) (hst : l.stackTraces = false) (D : va_G) (k : Nat → ClassId) (v1 : Int32) (v2 : Int32) : StepI l D k yL_input wsL_input (fun a0 qo => [.ref a0, .int v1, .int v2, .ref qo]) yX7_input wsX7_input (fun m0 => [.ref m0, .int v1, .int v2]) := by
  rintro a0 m0 th wb wm ⟨ad, aF, c, Y, G, Ls, len, lat, S, X, bs, bc, bv, bd, Vd, Vf, Vc, x, dr, aM, mi, ml, mz, rfl, rfl, rfl, rfl, rfl, hR⟩
  have hR0 := hR
  obtain ⟨⟨hA, hS, hU, hC⟩, ⟨ln, hln, rfl, hlm, hL⟩, ⟨hc, hcm⟩, hF, ⟨tn, rfl, htm, hT⟩, ⟨x0, hx0, rfl, hxm⟩⟩ := hR
  rcases isI v1 with ⟨i, hi, rfl, hI⟩ | ⟨h5, h6, hI⟩
  · by_cases h2 : v2 < 0 ∨ 4 < v2
    · have hM := m_input_bad hi h2 (mi 0) (mi 2) (mi 3) (mi 4) (mi 6) (mz 0)
      refine ⟨(2 : Int32), (0 : Int32), (0 : Int64), fun _ => (BW k ad aF c Y G Ls (nI ln) lat S X bs bc bv bd Vd Vf (nI tn) (nI x0) dr), MW k aM mi ml (st mz 0 2), fun _ => ⟨ad, aF, c, Y, G, Ls, (nI ln), lat, S, X, bs, bc, bv, bd, Vd, Vf, (nI tn), (nI x0), dr, aM, mi, ml, (st mz 0 2), rfl, rfl, rfl, rfl, rfl, hR0⟩, bd_x (by decide) ⟨rfl, rfl, Nat.le_of_ble_eq_true rfl, Nat.le_of_ble_eq_true rfl⟩ (fun qo sz => law_input_x2 l D k _ (ad 0 0) _ rfl qo sz (nI i) v2 (thr_up ((wIc k (ad 1) Y G) ++ ((wL k (ad 2) Ls (nI ln) lat) ++ ((wFc k (ad 3) S) ++ ((wB k (ad 4) bs bc bv bd) ++ ((wV k (ad 5) Vd Vf (nI tn)) ++ ((wC k (ad 6) (nI x0)) ++ (FW k aF X (List.range c)))))))) (fun sz => thr_X6_input_1 l hst D k (ad 0) (ad 1 0) (ad 2 0) (ad 3 0) (ad 4 0) (ad 5 0) (ad 6 0) sz (fRow c aF) dr (nI c) (nI i) v2 (ck_I hi) (rg.mp h2)) (List.Perm.refl _))) 0, ⟨rmX7_input, ⟨rfl, rfl, Nat.le_of_ble_eq_true rfl, Nat.le_of_ble_eq_true rfl⟩, fun sz => met_X7_input l D k aM sz (mi 0) (mi 1) (mi 2) (mi 3) (mi 4) (mi 5) (mi 6) (mi 7) (mi 8) (mi 9) (mi 10) (mi 11) (mi 12) (mi 13) (mi 14) (mi 15) (mi 16) (mi 17) (mi 18) (mi 19) (mi 20) (mi 21) (mi 22) (ml 0) (ml 1) (mi 23) (mi 24) (ml 2) (mi 25) (mi 26) (mz 0) (mz 1) (mz 2) (mz 3) (mz 4) (mz 5) (mz 6) (nI i) v2 0 2 hM⟩, fun q => absurd q (by decide)⟩
    · have hM := m_input_ok hi h2 hA hS (mz 0)
      have hcl := clamp_n (show i < 2 ^ 31 by omega)
      have hB : fX6_input (nI i) v2 (Y 0) (Y 1) (Y 2) (Y 3) (Y 4) = some (inpAns (Y 0) (Y 1) (Y 2) (Y 3) (Y 4) i v2) := by
        unfold fX6_input inpAns
        rw [ck_I hi, bnd0_s, ck_R (fun q => h2 (rg.mpr q)), bnd0_s]
        simp only [gi_n hi (show 6 < 2 ^ 31 by omega), hcl, c_degreesOf hi, c_widthOrCount hi, bnd1_s]
        rcases five h2 with rfl | rfl | rfl | rfl | rfl <;> rfl
      refine ⟨(0 : Int32), inpAns (Y 0) (Y 1) (Y 2) (Y 3) (Y 4) i v2, (inpAns (Y 0) (Y 1) (Y 2) (Y 3) (Y 4) i v2).toInt64, fun _ => (BW k ad aF c Y G Ls (nI ln) lat S X bs bc bv bd Vd Vf (nI tn) (nI x0) dr), MW k aM mi ml (st mz 0 0), fun u => ⟨ad, aF, c, Y, G, Ls, (nI ln), lat, S, X, bs, bc, bv, bd, Vd, Vf, (nI tn), (nI x0), dr, aM, mi, ml, (st mz 0 0), rfl, rfl, rfl, rfl, rfl, hR0⟩, bd_ok 0 0 ⟨rfl, rfl, Nat.le_of_ble_eq_true rfl, Nat.le_of_ble_eq_true rfl, Nat.le_of_ble_eq_true rfl, Nat.le_of_ble_eq_true rfl⟩ (fun qo f sz => law_input_ok l D k _ _ (ad 0 0) _ rfl qo f sz (nI i) v2 (inpAns (Y 0) (Y 1) (Y 2) (Y 3) (Y 4) i v2) (met_upI ((wL k (ad 2) Ls (nI ln) lat) ++ ((wFc k (ad 3) S) ++ ((wB k (ad 4) bs bc bv bd) ++ ((wV k (ad 5) Vd Vf (nI tn)) ++ ((wC k (ad 6) (nI x0)) ++ (FW k aF X (List.range c))))))) (met_gI (fun sz => met_X6_input l D k (ad 2 0) (ad 3 0) (ad 4 0) (ad 5 0) (ad 6 0) (ad 0) (ad 1) sz (fRow c aF) dr (nI c) (Y 0) (Y 1) (Y 2) (Y 3) (Y 4) (G 0) (Y 5) (Y 6) (G 1) (nI i) v2 _ hB)) pmUI (fun _ => pmUI))), ⟨rmX7_input, ⟨rfl, rfl, Nat.le_of_ble_eq_true rfl, Nat.le_of_ble_eq_true rfl⟩, fun sz => met_X7_input l D k aM sz (mi 0) (mi 1) (mi 2) (mi 3) (mi 4) (mi 5) (mi 6) (mi 7) (mi 8) (mi 9) (mi 10) (mi 11) (mi 12) (mi 13) (mi 14) (mi 15) (mi 16) (mi 17) (mi 18) (mi 19) (mi 20) (mi 21) (mi 22) (ml 0) (ml 1) (mi 23) (mi 24) (ml 2) (mi 25) (mi 26) (mz 0) (mz 1) (mz 2) (mz 3) (mz 4) (mz 5) (mz 6) (nI i) v2 (inpAns (Y 0) (Y 1) (Y 2) (Y 3) (Y 4) i v2) 0 hM⟩, fun _ => rfl⟩
  · have hM := m_input_in h5 v2 (mi 0) (mi 2) (mi 3) (mi 4) (mi 6) (mz 0)
    refine ⟨(1 : Int32), (0 : Int32), (0 : Int64), fun _ => (BW k ad aF c Y G Ls (nI ln) lat S X bs bc bv bd Vd Vf (nI tn) (nI x0) dr), MW k aM mi ml (st mz 0 1), fun _ => ⟨ad, aF, c, Y, G, Ls, (nI ln), lat, S, X, bs, bc, bv, bd, Vd, Vf, (nI tn), (nI x0), dr, aM, mi, ml, (st mz 0 1), rfl, rfl, rfl, rfl, rfl, hR0⟩, bd_x (by decide) ⟨rfl, rfl, Nat.le_of_ble_eq_true rfl, Nat.le_of_ble_eq_true rfl⟩ (fun qo sz => law_input_x1 l D k _ (ad 0 0) _ rfl qo sz v1 v2 (thr_up ((wIc k (ad 1) Y G) ++ ((wL k (ad 2) Ls (nI ln) lat) ++ ((wFc k (ad 3) S) ++ ((wB k (ad 4) bs bc bv bd) ++ ((wV k (ad 5) Vd Vf (nI tn)) ++ ((wC k (ad 6) (nI x0)) ++ (FW k aF X (List.range c)))))))) (fun sz => thr_X6_input_0 l hst D k (ad 0) (ad 1 0) (ad 2 0) (ad 3 0) (ad 4 0) (ad 5 0) (ad 6 0) sz (fRow c aF) dr (nI c) v1 v2 h6) (List.Perm.refl _))) 0, ⟨rmX7_input, ⟨rfl, rfl, Nat.le_of_ble_eq_true rfl, Nat.le_of_ble_eq_true rfl⟩, fun sz => met_X7_input l D k aM sz (mi 0) (mi 1) (mi 2) (mi 3) (mi 4) (mi 5) (mi 6) (mi 7) (mi 8) (mi 9) (mi 10) (mi 11) (mi 12) (mi 13) (mi 14) (mi 15) (mi 16) (mi 17) (mi 18) (mi 19) (mi 20) (mi 21) (mi 22) (ml 0) (ml 1) (mi 23) (mi 24) (ml 2) (mi 25) (mi 26) (mz 0) (mz 1) (mz 2) (mz 3) (mz 4) (mz 5) (mz 6) v1 v2 0 1 hM⟩, fun q => absurd q (by decide)⟩
set_option maxHeartbeats 4000000 in
theorem step_seed (l : Launch) (hst : l.stackTraces = false) (D : va_G) (k : Nat → ClassId) (v1 : Int32) : StepI l D k yL_seed wsL_seed (fun a0 qo => [.ref a0, .int v1, .ref qo]) yX7_seed wsX7_seed (fun m0 => [.ref m0, .int v1]) := by
  rintro a0 m0 th wb wm ⟨ad, aF, c, Y, G, Ls, len, lat, S, X, bs, bc, bv, bd, Vd, Vf, Vc, x, dr, aM, mi, ml, mz, rfl, rfl, rfl, rfl, rfl, hR⟩
  have hR0 := hR
  obtain ⟨⟨hA, hS, hU, hC⟩, ⟨ln, hln, rfl, hlm, hL⟩, ⟨hc, hcm⟩, hF, ⟨tn, rfl, htm, hT⟩, ⟨x0, hx0, rfl, hxm⟩⟩ := hR
  have hM0 := m_seed v1 (mz 0) (mz 6)
  by_cases h : v1 < 0 ∨ 65536 < v1
  · rw [if_pos h] at hM0
    refine ⟨(1 : Int32), (0 : Int32), (0 : Int64), fun _ => (BW k ad aF c Y G Ls (nI ln) lat S X bs bc bv bd Vd Vf (nI tn) (nI x0) dr), MW k aM mi ml (st mz 0 1), fun _ => ⟨ad, aF, c, Y, G, Ls, (nI ln), lat, S, X, bs, bc, bv, bd, Vd, Vf, (nI tn), (nI x0), dr, aM, mi, ml, (st mz 0 1), rfl, rfl, rfl, rfl, rfl, hR0⟩, bd_x (by decide) ⟨rfl, rfl, Nat.le_of_ble_eq_true rfl, Nat.le_of_ble_eq_true rfl⟩ (fun qo sz => law_seed_x1 l D k _ (ad 0 0) _ rfl qo sz v1 (thr_up ((wIc k (ad 1) Y G) ++ ((wL k (ad 2) Ls (nI ln) lat) ++ ((wFc k (ad 3) S) ++ ((wB k (ad 4) bs bc bv bd) ++ ((wV k (ad 5) Vd Vf (nI tn)) ++ ((wC k (ad 6) (nI x0)) ++ (FW k aF X (List.range c)))))))) (fun sz => thr_X6_seed_0 l hst D k (ad 0) (ad 1 0) (ad 2 0) (ad 3 0) (ad 4 0) (ad 5 0) (ad 6 0) sz (fRow c aF) dr (nI c) v1 (rg.mp h)) (List.Perm.refl _))) 0, ⟨rmX7_seed, ⟨rfl, rfl, Nat.le_of_ble_eq_true rfl, Nat.le_of_ble_eq_true rfl⟩, fun sz => met_X7_seed l D k aM sz (mi 0) (mi 1) (mi 2) (mi 3) (mi 4) (mi 5) (mi 6) (mi 7) (mi 8) (mi 9) (mi 10) (mi 11) (mi 12) (mi 13) (mi 14) (mi 15) (mi 16) (mi 17) (mi 18) (mi 19) (mi 20) (mi 21) (mi 22) (ml 0) (ml 1) (mi 23) (mi 24) (ml 2) (mi 25) (mi 26) (mz 0) (mz 1) (mz 2) (mz 3) (mz 4) (mz 5) (mz 6) v1 0 1 (mz 6) hM0⟩, fun q => absurd q (by decide)⟩
  · rw [if_neg h, hxm] at hM0
    rw [← hxm] at hM0
    obtain ⟨y0, hy0, rfl⟩ := ix_of (hi := 65536) (n := 65536) (by decide) (fun q => h (Or.inl q)) (fun q => h (Or.inr q)) (by omega)
    have hM : fX7_seed (nI y0) (mz 0) (mz 6) = some (nI x0, 0, nI y0) := by rw [hM0, hxm]
    have hB : fX6_seed (nI y0) (nI x0) = some (nI x0, nI y0) := by
      unfold fX6_seed
      rw [ck_R (fun q => h (rg.mpr q)), bnd0_s]
    refine ⟨(0 : Int32), nI x0, (nI x0).toInt64, fun _ => (BW k ad aF c Y G Ls (nI ln) lat S X bs bc bv bd Vd Vf (nI tn) (nI y0) dr), MW k aM mi ml (st (st mz 6 (nI y0)) 0 0), fun u => ⟨ad, aF, c, Y, G, Ls, (nI ln), lat, S, X, bs, bc, bv, bd, Vd, Vf, (nI tn), (nI y0), dr, aM, mi, ml, (st (st mz 6 (nI y0)) 0 0), rfl, rfl, rfl, rfl, rfl, ⟨⟨hA, hS, hU, hC⟩, ⟨ln, hln, rfl, hlm, hL⟩, ⟨hc, hcm⟩, hF, ⟨tn, rfl, htm, hT⟩, ⟨y0, by omega, rfl, rfl⟩⟩⟩, bd_ok 0 0 ⟨rfl, rfl, Nat.le_of_ble_eq_true rfl, Nat.le_of_ble_eq_true rfl, Nat.le_of_ble_eq_true rfl, Nat.le_of_ble_eq_true rfl⟩ (fun qo f sz => law_seed_ok l D k _ _ (ad 0 0) _ rfl qo f sz (nI y0) (nI x0) (met_upI ((wIc k (ad 1) Y G) ++ ((wL k (ad 2) Ls (nI ln) lat) ++ ((wFc k (ad 3) S) ++ ((wB k (ad 4) bs bc bv bd) ++ ((wV k (ad 5) Vd Vf (nI tn)) ++ (FW k aF X (List.range c))))))) (met_gI (fun sz => met_X6_seed l D k (ad 1 0) (ad 2 0) (ad 3 0) (ad 4 0) (ad 5 0) (ad 0) (ad 6) sz (fRow c aF) dr (nI c) (nI x0) (nI y0) _ _ hB)) pmUC (fun _ => pmUC))), ⟨rmX7_seed, ⟨rfl, rfl, Nat.le_of_ble_eq_true rfl, Nat.le_of_ble_eq_true rfl⟩, fun sz => met_X7_seed l D k aM sz (mi 0) (mi 1) (mi 2) (mi 3) (mi 4) (mi 5) (mi 6) (mi 7) (mi 8) (mi 9) (mi 10) (mi 11) (mi 12) (mi 13) (mi 14) (mi 15) (mi 16) (mi 17) (mi 18) (mi 19) (mi 20) (mi 21) (mi 22) (ml 0) (ml 1) (mi 23) (mi 24) (ml 2) (mi 25) (mi 26) (mz 0) (mz 1) (mz 2) (mz 3) (mz 4) (mz 5) (mz 6) (nI y0) (nI x0) 0 (nI y0) hM⟩, fun _ => rfl⟩
set_option maxHeartbeats 4000000 in
theorem step_table (l : Launch) (hst : l.stackTraces = false) (D : va_G) (k : Nat → ClassId) (v1 : Int32) (v2 : Int32) : StepI l D k yL_table wsL_table (fun a0 qo => [.ref a0, .int v1, .int v2, .ref qo]) yX7_table wsX7_table (fun m0 => [.ref m0, .int v1, .int v2]) := by
  rintro a0 m0 th wb wm ⟨ad, aF, c, Y, G, Ls, len, lat, S, X, bs, bc, bv, bd, Vd, Vf, Vc, x, dr, aM, mi, ml, mz, rfl, rfl, rfl, rfl, rfl, hR⟩
  have hR0 := hR
  obtain ⟨⟨hA, hS, hU, hC⟩, ⟨ln, hln, rfl, hlm, hL⟩, ⟨hc, hcm⟩, hF, ⟨tn, rfl, htm, hT⟩, ⟨x0, hx0, rfl, hxm⟩⟩ := hR
  by_cases hb : tabBad v1 v2
  · have hM : fX7_table v1 v2 (mi 25) (mi 26) (mz 0) (mz 5) = some (0, (mi 25), (mi 26), 1, (mz 5)) := by
      rw [htm]
      exact m_table_bad hT hb (mz 0)
    have hT9 : ∀ sz, vx_Met l yX6_table wsX6_table rmTX6_table (va_Pc [.ref (ad 0 0), .int v1, .int v2] (PreX D k ((wU k (ad 0) (ad 1 0) (ad 2 0) (ad 3 0) (ad 4 0) (ad 5 0) (ad 6 0) (fRow c aF) dr (nI c)) ++ wV k (ad 5) Vd Vf (nI tn)) sz)) NQ (XQ D k ((wU k (ad 0) (ad 1 0) (ad 2 0) (ad 3 0) (ad 4 0) (ad 5 0) (ad 6 0) (fRow c aF) dr (nI c)) ++ wV k (ad 5) Vd Vf (nI tn)) sz exA) 1 6 (va_A ((wU k (ad 0) (ad 1 0) (ad 2 0) (ad 3 0) (ad 4 0) (ad 5 0) (ad 6 0) (fRow c aF) dr (nI c)) ++ wV k (ad 5) Vd Vf (nI tn)) sz) := fun sz => by
      by_cases r1 : v1 < 1 ∨ ¬ v1 ≤ 9999
      · exact thr_X6_table_0 l hst D k (ad 0) (ad 5) (ad 1 0) (ad 2 0) (ad 3 0) (ad 4 0) (ad 6 0) sz (fRow c aF) dr (nI c) Vd Vf (nI tn) v1 v2 r1
      · exact thr_X6_table_1 l hst D k (ad 0) (ad 5) (ad 1 0) (ad 2 0) (ad 3 0) (ad 4 0) (ad 6 0) sz (fRow c aF) dr (nI c) Vd Vf (nI tn) v1 v2 (ck_R r1) (by
          rcases hb with h | h | h | h
          · exact absurd (Or.inl h) r1
          · exact absurd (rg.mp (Or.inr h)) r1
          · exact Or.inl h
          · exact rg.mp (Or.inr h))
    refine ⟨(1 : Int32), (0 : Int32), (0 : Int64), fun _ => (BW k ad aF c Y G Ls (nI ln) lat S X bs bc bv bd Vd Vf (nI tn) (nI x0) dr), MW k aM mi ml (st mz 0 1), fun _ => ⟨ad, aF, c, Y, G, Ls, (nI ln), lat, S, X, bs, bc, bv, bd, Vd, Vf, (nI tn), (nI x0), dr, aM, mi, ml, (st mz 0 1), rfl, rfl, rfl, rfl, rfl, hR0⟩, bd_x (by decide) ⟨rfl, rfl, Nat.le_of_ble_eq_true rfl, Nat.le_of_ble_eq_true rfl⟩ (fun qo sz => law_table_x1 l D k _ (ad 0 0) _ rfl qo sz v1 v2 (thr_up ((wIc k (ad 1) Y G) ++ ((wL k (ad 2) Ls (nI ln) lat) ++ ((wFc k (ad 3) S) ++ ((wB k (ad 4) bs bc bv bd) ++ ((wC k (ad 6) (nI x0)) ++ (FW k aF X (List.range c))))))) (fun sz => hT9 sz) pmUV)) 0, ⟨rmX7_table, ⟨rfl, rfl, Nat.le_of_ble_eq_true rfl, Nat.le_of_ble_eq_true rfl⟩, fun sz => met_X7_table l D k aM sz (mi 0) (mi 1) (mi 2) (mi 3) (mi 4) (mi 5) (mi 6) (mi 7) (mi 8) (mi 9) (mi 10) (mi 11) (mi 12) (mi 13) (mi 14) (mi 15) (mi 16) (mi 17) (mi 18) (mi 19) (mi 20) (mi 21) (mi 22) (ml 0) (ml 1) (mi 23) (mi 24) (ml 2) (mi 25) (mi 26) (mz 0) (mz 1) (mz 2) (mz 3) (mz 4) (mz 5) (mz 6) v1 v2 0 (mi 25) (mi 26) 1 (mz 5) hM⟩, fun q => absurd q (by decide)⟩
  · have r1 : ¬ (v1 < 1 ∨ ¬ v1 ≤ 9999) := fun q => hb ((rg.mpr q).elim Or.inl (fun q => Or.inr (Or.inl q)))
    have r2 : ¬ (v2 < (-1) ∨ ¬ v2 ≤ 999) := fun q => hb (Or.inr (Or.inr (rg.mpr q)))
    by_cases e : v2 = -1
    · subst e
      obtain ⟨n', D', F', MF', MA', e1, e2, e3⟩ := table_out hT hb (mz 0)
      have hM : fX7_table v1 (-1) (mi 25) (mi 26) (mz 0) (mz 5) = some (nI n', MF', MA', 0, nI n') := by
        rw [htm]
        exact e2
      have hB : fX6_table v1 (-1) Vd Vf (nI tn) = some (nI n', D', F', nI n') := by
        unfold fX6_table
        rw [ck_R r1, bnd0_s, ck_R r2, bnd0_s, if_pos rfl, e1, bnd3_s]
        rfl
      refine ⟨(0 : Int32), nI n', (nI n').toInt64, fun _ => (BW k ad aF c Y G Ls (nI ln) lat S X bs bc bv bd D' F' (nI n') (nI x0) dr), MW k aM (st (st mi 25 MF') 26 MA') ml (st (st mz 5 (nI n')) 0 0), fun u => ⟨ad, aF, c, Y, G, Ls, (nI ln), lat, S, X, bs, bc, bv, bd, D', F', (nI n'), (nI x0), dr, aM, (st (st mi 25 MF') 26 MA'), ml, (st (st mz 5 (nI n')) 0 0), rfl, rfl, rfl, rfl, rfl, ⟨⟨hA, hS, hU, hC⟩, ⟨ln, hln, rfl, hlm, hL⟩, ⟨hc, hcm⟩, hF, ⟨n', rfl, rfl, e3⟩, ⟨x0, hx0, rfl, hxm⟩⟩⟩, bd_ok 0 0 ⟨rfl, rfl, Nat.le_of_ble_eq_true rfl, Nat.le_of_ble_eq_true rfl, Nat.le_of_ble_eq_true rfl, Nat.le_of_ble_eq_true rfl⟩ (fun qo f sz => law_table_ok l D k _ _ (ad 0 0) _ rfl qo f sz v1 (-1) (nI n') (met_upI ((wIc k (ad 1) Y G) ++ ((wL k (ad 2) Ls (nI ln) lat) ++ ((wFc k (ad 3) S) ++ ((wB k (ad 4) bs bc bv bd) ++ ((wC k (ad 6) (nI x0)) ++ (FW k aF X (List.range c))))))) (met_gI (fun sz => met_X6_table l D k (ad 1 0) (ad 2 0) (ad 3 0) (ad 4 0) (ad 6 0) (ad 0) (ad 5) sz (fRow c aF) dr (nI c) Vd Vf (nI tn) v1 (-1) _ _ _ _ hB)) pmUV (fun _ => pmUV))), ⟨rmX7_table, ⟨rfl, rfl, Nat.le_of_ble_eq_true rfl, Nat.le_of_ble_eq_true rfl⟩, fun sz => met_X7_table l D k aM sz (mi 0) (mi 1) (mi 2) (mi 3) (mi 4) (mi 5) (mi 6) (mi 7) (mi 8) (mi 9) (mi 10) (mi 11) (mi 12) (mi 13) (mi 14) (mi 15) (mi 16) (mi 17) (mi 18) (mi 19) (mi 20) (mi 21) (mi 22) (ml 0) (ml 1) (mi 23) (mi 24) (ml 2) (mi 25) (mi 26) (mz 0) (mz 1) (mz 2) (mz 3) (mz 4) (mz 5) (mz 6) v1 (-1) (nI n') MF' MA' 0 (nI n') hM⟩, fun _ => rfl⟩
    · rcases table_in hT hb e (mz 0) with ⟨n', D', F', MF', MA', e0, e1, e2, e3⟩ | ⟨e0, e2⟩
      · have hM : fX7_table v1 v2 (mi 25) (mi 26) (mz 0) (mz 5) = some (nI n', MF', MA', 0, nI n') := by
          rw [htm]
          exact e2
        have hB : fX6_table v1 v2 Vd Vf (nI tn) = some (nI n', D', F', nI n') := by
          unfold fX6_table
          rw [ck_R r1, bnd0_s, ck_R r2, bnd0_s, if_neg e, e0, bnd1_s, if_neg n10, e1, bnd3_s]
          rfl
        refine ⟨(0 : Int32), nI n', (nI n').toInt64, fun _ => (BW k ad aF c Y G Ls (nI ln) lat S X bs bc bv bd D' F' (nI n') (nI x0) dr), MW k aM (st (st mi 25 MF') 26 MA') ml (st (st mz 5 (nI n')) 0 0), fun u => ⟨ad, aF, c, Y, G, Ls, (nI ln), lat, S, X, bs, bc, bv, bd, D', F', (nI n'), (nI x0), dr, aM, (st (st mi 25 MF') 26 MA'), ml, (st (st mz 5 (nI n')) 0 0), rfl, rfl, rfl, rfl, rfl, ⟨⟨hA, hS, hU, hC⟩, ⟨ln, hln, rfl, hlm, hL⟩, ⟨hc, hcm⟩, hF, ⟨n', rfl, rfl, e3⟩, ⟨x0, hx0, rfl, hxm⟩⟩⟩, bd_ok 0 0 ⟨rfl, rfl, Nat.le_of_ble_eq_true rfl, Nat.le_of_ble_eq_true rfl, Nat.le_of_ble_eq_true rfl, Nat.le_of_ble_eq_true rfl⟩ (fun qo f sz => law_table_ok l D k _ _ (ad 0 0) _ rfl qo f sz v1 v2 (nI n') (met_upI ((wIc k (ad 1) Y G) ++ ((wL k (ad 2) Ls (nI ln) lat) ++ ((wFc k (ad 3) S) ++ ((wB k (ad 4) bs bc bv bd) ++ ((wC k (ad 6) (nI x0)) ++ (FW k aF X (List.range c))))))) (met_gI (fun sz => met_X6_table l D k (ad 1 0) (ad 2 0) (ad 3 0) (ad 4 0) (ad 6 0) (ad 0) (ad 5) sz (fRow c aF) dr (nI c) Vd Vf (nI tn) v1 v2 _ _ _ _ hB)) pmUV (fun _ => pmUV))), ⟨rmX7_table, ⟨rfl, rfl, Nat.le_of_ble_eq_true rfl, Nat.le_of_ble_eq_true rfl⟩, fun sz => met_X7_table l D k aM sz (mi 0) (mi 1) (mi 2) (mi 3) (mi 4) (mi 5) (mi 6) (mi 7) (mi 8) (mi 9) (mi 10) (mi 11) (mi 12) (mi 13) (mi 14) (mi 15) (mi 16) (mi 17) (mi 18) (mi 19) (mi 20) (mi 21) (mi 22) (ml 0) (ml 1) (mi 23) (mi 24) (ml 2) (mi 25) (mi 26) (mz 0) (mz 1) (mz 2) (mz 3) (mz 4) (mz 5) (mz 6) v1 v2 (nI n') MF' MA' 0 (nI n') hM⟩, fun _ => rfl⟩
      · have hM : fX7_table v1 v2 (mi 25) (mi 26) (mz 0) (mz 5) = some (0, (mi 25), (mi 26), 2, (mz 5)) := by
          rw [htm]
          exact e2
        refine ⟨(2 : Int32), (0 : Int32), (0 : Int64), fun _ => (BW k ad aF c Y G Ls (nI ln) lat S X bs bc bv bd Vd Vf (nI tn) (nI x0) dr), MW k aM mi ml (st mz 0 2), fun _ => ⟨ad, aF, c, Y, G, Ls, (nI ln), lat, S, X, bs, bc, bv, bd, Vd, Vf, (nI tn), (nI x0), dr, aM, mi, ml, (st mz 0 2), rfl, rfl, rfl, rfl, rfl, hR0⟩, bd_x (by decide) ⟨rfl, rfl, Nat.le_of_ble_eq_true rfl, Nat.le_of_ble_eq_true rfl⟩ (fun qo sz => law_table_x2 l D k _ (ad 0 0) _ rfl qo sz v1 v2 (thr_up ((wIc k (ad 1) Y G) ++ ((wL k (ad 2) Ls (nI ln) lat) ++ ((wFc k (ad 3) S) ++ ((wB k (ad 4) bs bc bv bd) ++ ((wC k (ad 6) (nI x0)) ++ (FW k aF X (List.range c))))))) (fun sz => thr_X6_table_2 l hst D k (ad 0) (ad 5) (ad 1 0) (ad 2 0) (ad 3 0) (ad 4 0) (ad 6 0) sz (fRow c aF) dr (nI c) Vd Vf (nI tn) v1 v2 0 (ck_R r1) (ck_R r2) e e0 rfl) pmUV)) 0, ⟨rmX7_table, ⟨rfl, rfl, Nat.le_of_ble_eq_true rfl, Nat.le_of_ble_eq_true rfl⟩, fun sz => met_X7_table l D k aM sz (mi 0) (mi 1) (mi 2) (mi 3) (mi 4) (mi 5) (mi 6) (mi 7) (mi 8) (mi 9) (mi 10) (mi 11) (mi 12) (mi 13) (mi 14) (mi 15) (mi 16) (mi 17) (mi 18) (mi 19) (mi 20) (mi 21) (mi 22) (ml 0) (ml 1) (mi 23) (mi 24) (ml 2) (mi 25) (mi 26) (mz 0) (mz 1) (mz 2) (mz 3) (mz 4) (mz 5) (mz 6) v1 v2 0 (mi 25) (mi 26) 2 (mz 5) hM⟩, fun q => absurd q (by decide)⟩
set_option maxHeartbeats 4000000 in
theorem step_type (l : Launch) (hst : l.stackTraces = false) (D : va_G) (k : Nat → ClassId) (v1 : Int64) : StepI l D k yL_type wsL_type (fun a0 qo => [.ref a0, .long v1, .ref qo]) yX7_type wsX7_type (fun m0 => [.ref m0, .long v1]) := by
  rintro a0 m0 th wb wm ⟨ad, aF, c, Y, G, Ls, len, lat, S, X, bs, bc, bv, bd, Vd, Vf, Vc, x, dr, aM, mi, ml, mz, rfl, rfl, rfl, rfl, rfl, hR⟩
  have hR0 := hR
  obtain ⟨⟨hA, hS, hU, hC⟩, ⟨ln, hln, rfl, hlm, hL⟩, ⟨hc, hcm⟩, hF, ⟨tn, rfl, htm, hT⟩, ⟨x0, hx0, rfl, hxm⟩⟩ := hR
  rcases type_same v1 hln hL (mz 0) with ⟨e1, e2⟩ | ⟨c9, hc9, e1, h60, e2⟩ | ⟨c9, L2, ML2, hc9, e1, h60, e3, e2, hL2⟩
  · have hM : fX7_type v1 (mi 8) (mz 0) (mz 1) = some (0, (mi 8), 1, (mz 1)) := by
      rw [hlm]
      exact e2
    refine ⟨(1 : Int32), (0 : Int32), (0 : Int64), fun _ => (BW k ad aF c Y G Ls (nI ln) lat S X bs bc bv bd Vd Vf (nI tn) (nI x0) dr), MW k aM mi ml (st mz 0 1), fun _ => ⟨ad, aF, c, Y, G, Ls, (nI ln), lat, S, X, bs, bc, bv, bd, Vd, Vf, (nI tn), (nI x0), dr, aM, mi, ml, (st mz 0 1), rfl, rfl, rfl, rfl, rfl, hR0⟩, bd_x (by decide) ⟨rfl, rfl, Nat.le_of_ble_eq_true rfl, Nat.le_of_ble_eq_true rfl⟩ (fun qo sz => law_type_x1 l D k _ (ad 0 0) _ rfl qo sz v1 (thr_up ((wIc k (ad 1) Y G) ++ ((wFc k (ad 3) S) ++ ((wB k (ad 4) bs bc bv bd) ++ ((wV k (ad 5) Vd Vf (nI tn)) ++ ((wC k (ad 6) (nI x0)) ++ (FW k aF X (List.range c))))))) (fun sz => thr_X6_type_1 l hst D k (ad 0) (ad 2) (ad 1 0) (ad 3 0) (ad 4 0) (ad 5 0) (ad 6 0) sz (fRow c aF) dr (nI c) Ls (nI ln) lat v1 (-1) e1 rfl) pmUL)) 0, ⟨rmX7_type, ⟨rfl, rfl, Nat.le_of_ble_eq_true rfl, Nat.le_of_ble_eq_true rfl⟩, fun sz => met_X7_type l D k aM sz (mi 0) (mi 1) (mi 2) (mi 3) (mi 4) (mi 5) (mi 6) (mi 7) (mi 8) (mi 9) (mi 10) (mi 11) (mi 12) (mi 13) (mi 14) (mi 15) (mi 16) (mi 17) (mi 18) (mi 19) (mi 20) (mi 21) (mi 22) (ml 0) (ml 1) (mi 23) (mi 24) (ml 2) (mi 25) (mi 26) (mz 0) (mz 1) (mz 2) (mz 3) (mz 4) (mz 5) (mz 6) v1 0 (mi 8) 1 (mz 1) hM⟩, fun q => absurd q (by decide)⟩
  · have hM : fX7_type v1 (mi 8) (mz 0) (mz 1) = some (0, (mi 8), 2, (mz 1)) := by
      rw [hlm]
      exact e2
    have n1 : ¬ nI c9 = -1 := nI_neM1 (by omega)
    have n2 : ¬ nI ln + nI c9 ≤ 60 := by
      rw [nI_add]
      exact fun q => by have := (nI_leI (b := 60) (by omega) (by omega)).mp q; omega
    refine ⟨(2 : Int32), (0 : Int32), (0 : Int64), fun _ => (BW k ad aF c Y G Ls (nI ln) lat S X bs bc bv bd Vd Vf (nI tn) (nI x0) dr), MW k aM mi ml (st mz 0 2), fun _ => ⟨ad, aF, c, Y, G, Ls, (nI ln), lat, S, X, bs, bc, bv, bd, Vd, Vf, (nI tn), (nI x0), dr, aM, mi, ml, (st mz 0 2), rfl, rfl, rfl, rfl, rfl, hR0⟩, bd_x (by decide) ⟨rfl, rfl, Nat.le_of_ble_eq_true rfl, Nat.le_of_ble_eq_true rfl⟩ (fun qo sz => law_type_x2 l D k _ (ad 0 0) _ rfl qo sz v1 (thr_up ((wIc k (ad 1) Y G) ++ ((wFc k (ad 3) S) ++ ((wB k (ad 4) bs bc bv bd) ++ ((wV k (ad 5) Vd Vf (nI tn)) ++ ((wC k (ad 6) (nI x0)) ++ (FW k aF X (List.range c))))))) (fun sz => thr_X6_type_0 l hst D k (ad 0) (ad 2) (ad 1 0) (ad 3 0) (ad 4 0) (ad 5 0) (ad 6 0) sz (fRow c aF) dr (nI c) Ls (nI ln) lat v1 (nI c9) e1 n1 n2) pmUL)) 0, ⟨rmX7_type, ⟨rfl, rfl, Nat.le_of_ble_eq_true rfl, Nat.le_of_ble_eq_true rfl⟩, fun sz => met_X7_type l D k aM sz (mi 0) (mi 1) (mi 2) (mi 3) (mi 4) (mi 5) (mi 6) (mi 7) (mi 8) (mi 9) (mi 10) (mi 11) (mi 12) (mi 13) (mi 14) (mi 15) (mi 16) (mi 17) (mi 18) (mi 19) (mi 20) (mi 21) (mi 22) (ml 0) (ml 1) (mi 23) (mi 24) (ml 2) (mi 25) (mi 26) (mz 0) (mz 1) (mz 2) (mz 3) (mz 4) (mz 5) (mz 6) v1 0 (mi 8) 2 (mz 1) hM⟩, fun q => absurd q (by decide)⟩
  · have hM : fX7_type v1 (mi 8) (mz 0) (mz 1) = some (nI (ln + c9), ML2, 0, nI (ln + c9)) := by
      rw [hlm]
      exact e2
    have n1 : ¬ nI c9 = -1 := nI_neM1 (by omega)
    have n2 : nI ln + nI c9 ≤ 60 := by
      rw [nI_add]
      exact (nI_leI (b := 60) (by omega) (by omega)).mpr (by omega)
    have hB : fX6_type v1 Ls (nI ln) = some (nI (ln + c9), L2, nI (ln + c9)) := by
      unfold fX6_type
      rw [e1, bnd1_s, if_neg n1, if_pos n2, e3, bnd2_s]
    refine ⟨(0 : Int32), nI (ln + c9), (nI (ln + c9)).toInt64, fun _ => (BW k ad aF c Y G L2 (nI (ln + c9)) lat S X bs bc bv bd Vd Vf (nI tn) (nI x0) dr), MW k aM (st mi 8 ML2) ml (st (st mz 1 (nI (ln + c9))) 0 0), fun u => ⟨ad, aF, c, Y, G, L2, (nI (ln + c9)), lat, S, X, bs, bc, bv, bd, Vd, Vf, (nI tn), (nI x0), dr, aM, (st mi 8 ML2), ml, (st (st mz 1 (nI (ln + c9))) 0 0), rfl, rfl, rfl, rfl, rfl, ⟨⟨hA, hS, hU, hC⟩, ⟨ln + c9, h60, rfl, rfl, hL2⟩, ⟨hc, hcm⟩, hF, ⟨tn, rfl, htm, hT⟩, ⟨x0, hx0, rfl, hxm⟩⟩⟩, bd_ok 0 0 ⟨rfl, rfl, Nat.le_of_ble_eq_true rfl, Nat.le_of_ble_eq_true rfl, Nat.le_of_ble_eq_true rfl, Nat.le_of_ble_eq_true rfl⟩ (fun qo f sz => law_type_ok l D k _ _ (ad 0 0) _ rfl qo f sz v1 (nI (ln + c9)) (met_upI ((wIc k (ad 1) Y G) ++ ((wFc k (ad 3) S) ++ ((wB k (ad 4) bs bc bv bd) ++ ((wV k (ad 5) Vd Vf (nI tn)) ++ ((wC k (ad 6) (nI x0)) ++ (FW k aF X (List.range c))))))) (met_gI (fun sz => met_X6_type l D k (ad 1 0) (ad 3 0) (ad 4 0) (ad 5 0) (ad 6 0) (ad 0) (ad 2) sz (fRow c aF) dr (nI c) Ls (nI ln) lat v1 _ _ _ hB)) pmUL (fun _ => pmUL))), ⟨rmX7_type, ⟨rfl, rfl, Nat.le_of_ble_eq_true rfl, Nat.le_of_ble_eq_true rfl⟩, fun sz => met_X7_type l D k aM sz (mi 0) (mi 1) (mi 2) (mi 3) (mi 4) (mi 5) (mi 6) (mi 7) (mi 8) (mi 9) (mi 10) (mi 11) (mi 12) (mi 13) (mi 14) (mi 15) (mi 16) (mi 17) (mi 18) (mi 19) (mi 20) (mi 21) (mi 22) (ml 0) (ml 1) (mi 23) (mi 24) (ml 2) (mi 25) (mi 26) (mz 0) (mz 1) (mz 2) (mz 3) (mz 4) (mz 5) (mz 6) v1 (nI (ln + c9)) ML2 0 (nI (ln + c9)) hM⟩, fun _ => rfl⟩
