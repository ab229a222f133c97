set_option maxHeartbeats 4000000 in
theorem bk_shape (l : Launch) (D : va_G) (k : Nat → ClassId) {a0 : Nat} {o : OBk} {wb : va_W} (hb : isBk k a0 o wb) {v1 : Int32} {v2 : Int32} {v3 : Int32} {v4 : Int32} {K : Int32 → OBk → Prop} (h : cb_shape v1 v2 v3 v4 o K) : CbI l D k yX6_shape wsX6_shape rmX6_shape [.ref a0, .int v1, .int v2, .int v3, .int v4] wb a0 K 0 0 := by
  obtain ⟨ad, aF, G, Ls, lat, S, X, bs, bc, bv, bd, Vd, Vf, dr, rfl, rfl, hA⟩ := hb
  have hA0 := hA
  obtain ⟨hc, hI, ⟨hC, eC⟩, hT, hx, hL, hF⟩ := hA
  obtain ⟨i, hi, rfl, hbad, hk⟩ := h
  have h2 : ¬ (v2 < (-999) ∨ ¬ v2 ≤ 999) := fun q => hbad ((rg.mpr q).elim Or.inl (fun q => Or.inr (Or.inl q)))
  have h3 : ¬ (v3 < 0 ∨ ¬ v3 ≤ 3) := fun q => hbad ((rg.mpr q).elim (fun q => Or.inr (Or.inr (Or.inl q))) (fun q => Or.inr (Or.inr (Or.inr (Or.inl q)))))
  have h4 : ¬ (v4 < 0 ∨ (if v3 = 0 then (0 : Int32) else 99) < v4) := fun q => hbad (Or.inr (Or.inr (Or.inr (Or.inr q))))
  have hB : fX6_shape (nI i) v2 v3 v4 (oI o 0) (oI o 1) (oI o 2) (oI o 3) (oI o 4) = some (varOf v3 v4, upd (oI o 0) i v2, upd (oI o 1) i (varOf v3 v4), upd (oI o 2) i v3, upd (oI o 3) i v4, upd (oI o 4) i 0) := by
    unfold fX6_shape
    rw [ck_I hi, bnd0_s, ck_R h2, bnd0_s, ck_R h3, bnd0_s]
    by_cases z : v3 = 0
    · rw [if_pos z] at h4 ⊢
      unfold BX6_shape_33
      rw [ck_R (fun q => h4 (rg.mpr q)), bnd0_s, c_tellShape hi, bnd6_s]
    · rw [if_neg z] at h4 ⊢
      unfold BX6_shape_33
      rw [ck_R (fun q => h4 (rg.mpr q)), bnd0_s, c_tellShape hi, bnd6_s]
  have hI' : okIn (st (st (st (st (st (oI o) 0 (upd (oI o 0) i v2)) 1 (upd (oI o 1) i (varOf v3 v4))) 2 (upd (oI o 2) i v3)) 3 (upd (oI o 3) i v4)) 4 (upd (oI o 4) i 0)) (G 0) := fun j hj => by
    show (upd (oI o 2) i v3 j = 4 ∧ ∃ c, 1 ≤ c ∧ c ≤ 8 ∧ upd (oI o 4) i 0 j = nI c ∧ ∀ k, k < c → smallR (G 0 j k)) ∨ (∃ s w, s ≤ 3 ∧ w ≤ 99 ∧ upd (oI o 2) i v3 j = nI s ∧ upd (oI o 4) i 0 j = 0 ∧ upd (oI o 3) i v4 j = nI w)
    simp only [upd_at]
    by_cases e : j = i
    · right
      obtain ⟨s, hs, e3⟩ := ix_of (hi := 3) (n := 3) (by decide) (fun q => h3 (Or.inl q)) (fun q => h3 (rg.mp (Or.inr q))) (by omega)
      obtain ⟨w, hw, e4⟩ := ix_of (x := v4) (hi := 99) (n := 99) (by decide) (fun q => h4 (Or.inl q)) (fun q => h4 (Or.inr (by
        by_cases z : v3 = 0
        · rw [if_pos z]
          exact Int32.lt_trans (by decide) q
        · rw [if_neg z]
          exact q))) (by omega)
      refine ⟨s, w, by omega, by omega, ?_⟩
      simp [e, e3, e4]
    · simp only [if_neg e]
      exact hI j hj
  have hA' : okAll (mkO (oc o) (st (st (st (st (st (oI o) 0 (upd (oI o 0) i v2)) 1 (upd (oI o 1) i (varOf v3 v4))) 2 (upd (oI o 2) i v3)) 3 (upd (oI o 3) i v4)) 4 (upd (oI o 4) i 0)) (ocv o) (oln o) (ocd o) (fun j => valC (X j) ((st (st (st (st (st (oI o) 0 (upd (oI o 0) i v2)) 1 (upd (oI o 1) i (varOf v3 v4))) 2 (upd (oI o 2) i v3)) 3 (upd (oI o 3) i v4)) 4 (upd (oI o 4) i 0)) 0)) (fun j => senC (X j) ((st (st (st (st (st (oI o) 0 (upd (oI o 0) i v2)) 1 (upd (oI o 1) i (varOf v3 v4))) 2 (upd (oI o 2) i v3)) 3 (upd (oI o 3) i v4)) 4 (upd (oI o 4) i 0)) 0)) (ods o) (fun j => facC (senC (X j) ((st (st (st (st (st (oI o) 0 (upd (oI o 0) i v2)) 1 (upd (oI o 1) i (varOf v3 v4))) 2 (upd (oI o 2) i v3)) 3 (upd (oI o 3) i v4)) 4 (upd (oI o 4) i 0)) 0)) (st (st (st (st (st (oI o) 0 (upd (oI o 0) i v2)) 1 (upd (oI o 1) i (varOf v3 v4))) 2 (upd (oI o 2) i v3)) 3 (upd (oI o 3) i v4)) 4 (upd (oI o 4) i 0)) (ocv o) Vd Vf (nI (otn o))) (otn o) (ox o)) G Ls X Vd Vf := ⟨hc, hI', ⟨hC, eC⟩, hT, hx, hL, fun j hj => ⟨(hF j hj).1, rfl, rfl, (hF j hj).2.2.2.1, rfl⟩⟩
  exact cbI_of (fun u => (BW k ad aF (oc o) (st (st (st (st (st (oI o) 0 (upd (oI o 0) i v2)) 1 (upd (oI o 1) i (varOf v3 v4))) 2 (upd (oI o 2) i v3)) 3 (upd (oI o 3) i v4)) 4 (upd (oI o 4) i 0)) G Ls (nI (oln o)) lat S X bs bc bv bd Vd Vf (nI (otn o)) (nI (ox o)) dr)) (met_upI ((wL k (ad 2) Ls (nI (oln o)) lat) ++ ((wFc k (ad 3) S) ++ ((wB k (ad 4) bs bc bv bd) ++ ((wV k (ad 5) Vd Vf (nI (otn o))) ++ ((wC k (ad 6) (nI (ox o))) ++ (FW k aF X (List.range (oc o)))))))) (met_gI (fun sz => met_X6_shape l D k (ad 2 0) (ad 3 0) (ad 4 0) (ad 5 0) (ad 6 0) (ad 0) (ad 1) sz (fRow (oc o) aF) dr (nI (oc o)) (oI o 0) (oI o 1) (oI o 2) (oI o 3) (oI o 4) (G 0) (oI o 5) (oI o 6) (G 1) (nI i) v2 v3 v4 _ _ _ _ _ _ hB)) pmUI (fun _ => pmUI)) (fun u => ⟨ad, aF, G, Ls, lat, S, X, bs, bc, bv, bd, Vd, Vf, dr, rfl, rfl, hA'⟩) (hk _ _ _)
set_option maxHeartbeats 4000000 in
theorem bk_read (l : Launch) (D : va_G) (k : Nat → ClassId) {a0 : Nat} {o : OBk} {wb : va_W} (hb : isBk k a0 o wb) {v1 : Int32} {v2 : Int32} {K : Int32 → OBk → Prop} (h : ∃ i c, i < 6 ∧ v1 = nI i ∧ smallR v2 ∧ c < 8 ∧ oI o 4 i = nI c ∧ ∀ (q a : Int32) (va : Nat → Int64) (se : Nat → Nat → Int64) (fa : Nat → Int32), 0 ≤ a → (c = 0 → q = v2 ∧ a = 0) → OFo (mkO (oc o) (rdI o i c q a) (ocv o) (oln o) (ocd o) va se (ods o) fa (otn o) (ox o)) → K a (mkO (oc o) (rdI o i c q a) (ocv o) (oln o) (ocd o) va se (ods o) fa (otn o) (ox o))) : CbI l D k yX6_read wsX6_read rmX6_read [.ref a0, .int v1, .int v2] wb a0 K 0 0 := by
  obtain ⟨ad, aF, G, Ls, lat, S, X, bs, bc, bv, bd, Vd, Vf, dr, rfl, rfl, hA⟩ := hb
  have hA0 := hA
  obtain ⟨hc, hI, ⟨hC, eC⟩, hT, hx, hL, hF⟩ := hA
  obtain ⟨i, c, hi, rfl, hv, hc7, hC4, hk⟩ := h
  have r2 : ¬ (v2 < (-999) ∨ ¬ v2 ≤ 999) := fun q => by
    unfold smallR at hv
    have z1 : (-999 : Int32).toInt = -999 := by decide
    have z2 : (999 : Int32).toInt = 999 := by decide
    rcases q with q | q
    · rw [lt_i] at q
      omega
    · rw [le_i] at q
      omega
  have hcl := clamp_n (show i < 2 ^ 31 by omega)
  have hR4 : ∀ k', k' < c → smallR (G 0 i k') := fun k' hk' => by
    rcases hI i hi with ⟨-, c', -, h2, h3, h4⟩ | ⟨s, w, -, -, -, h4, -⟩
    · have : c' = c := (nI_eq (by omega) (by omega)).mp (h3.symm.trans hC4)
      exact h4 k' (by omega)
    · have : c = 0 := (nI_eq (b := 0) (by omega) (by omega)).mp (hC4.symm.trans h4)
      omega
  have sm : ∀ k', k' < c + 1 → smallR (upd2 (G 0) i c v2 i k') := fun k' hk' => by
    rw [upd2_at, if_pos rfl]
    by_cases e : k' = c
    · rw [if_pos e]; exact hv
    · rw [if_neg e]; exact hR4 k' (by omega)
  obtain ⟨q, q1, q2⟩ := c_floor (s := rsum (upd2 (G 0) i c v2 i) (c + 1)) (show 1 ≤ c + 1 by omega) (show c + 1 ≤ 8 by omega)
  obtain ⟨av, hav⟩ : ∃ av : Int32, av = (if c = 0 then 0 else (nI (c + 1) * rsq (upd2 (G 0) i c v2 i) (c + 1) - rsum (upd2 (G 0) i c v2 i) (c + 1) * rsum (upd2 (G 0) i c v2 i) (c + 1)) / ((nI (c + 1) * nI (c + 1)) * (nI (c + 1) - 1))) := ⟨_, rfl⟩
  have e1 := c_read hi (show c ≤ 7 by omega) (C := oI o 4) hC4 (oI o 0) (oI o 1) (oI o 2) (G 0) q1
  rw [← hav] at e1
  have hB : fX6_read (nI i) v2 (oI o 0) (oI o 1) (oI o 2) (oI o 4) (G 0) = some (av, upd (oI o 0) i q, upd (oI o 1) i av, upd (oI o 2) i 4, upd (oI o 4) i (nI (c + 1)), upd2 (G 0) i c v2) := by
    unfold fX6_read
    rw [ck_I hi, bnd0_s, ck_R r2, bnd0_s, gi_n hi (by omega), hcl, hC4, if_pos (show nI c < 8 from (nI_ltI (b := 8) (by omega) (by omega)).mpr (by omega)), e1, bnd6_s]
  have ap : 0 ≤ av := by
    rw [hav]
    by_cases e : c = 0
    · rw [if_pos e]
      decide
    · rw [if_neg e]
      exact var_pos (by omega) (by omega) sm
  have a0' : c = 0 → q = v2 ∧ av = 0 := fun e => by
    refine ⟨?_, by rw [hav, if_pos e]⟩
    rw [q2 (by omega)]
    subst e
    show 0 + upd2 (G 0) i 0 v2 i 0 = v2
    rw [upd2_at, if_pos rfl, if_pos rfl]
    exact Int32.zero_add v2
  have hI' : okIn (rdI o i c q av) ((st G 0 (upd2 (G 0) i c v2)) 0) := fun j hj => by
    show (upd (oI o 2) i 4 j = 4 ∧ ∃ d, 1 ≤ d ∧ d ≤ 8 ∧ upd (oI o 4) i (nI (c + 1)) j = nI d ∧ ∀ k', k' < d → smallR (upd2 (G 0) i c v2 j k')) ∨ (∃ s w, s ≤ 3 ∧ w ≤ 99 ∧ upd (oI o 2) i 4 j = nI s ∧ upd (oI o 4) i (nI (c + 1)) j = 0 ∧ oI o 3 j = nI w)
    simp only [upd_at]
    by_cases e : j = i
    · subst e
      left
      simp only [if_true]
      exact ⟨trivial, c + 1, by omega, by omega, rfl, sm⟩
    · simp only [if_neg e]
      rcases hI j hj with ⟨s1, d, s2, s3, s4, s5⟩ | h
      · left
        refine ⟨s1, d, s2, s3, s4, fun k' hk' => ?_⟩
        rw [upd2_at, if_neg e]
        exact s5 k' hk'
      · exact Or.inr h
  have hA' : okAll (mkO (oc o) (rdI o i c q av) (ocv o) (oln o) (ocd o) (fun j => valC (X j) ((rdI o i c q av) 0)) (fun j => senC (X j) ((rdI o i c q av) 0)) (ods o) (fun j => facC (senC (X j) ((rdI o i c q av) 0)) (rdI o i c q av) (ocv o) Vd Vf (nI (otn o))) (otn o) (ox o)) (st G 0 (upd2 (G 0) i c v2)) Ls X Vd Vf := ⟨hc, hI', ⟨hC, eC⟩, hT, hx, hL, fun j hj => ⟨(hF j hj).1, rfl, rfl, (hF j hj).2.2.2.1, rfl⟩⟩
  exact cbI_of (fun u => (BW k ad aF (oc o) (rdI o i c q av) (st G 0 (upd2 (G 0) i c v2)) Ls (nI (oln o)) lat S X bs bc bv bd Vd Vf (nI (otn o)) (nI (ox o)) dr)) (met_upI ((wL k (ad 2) Ls (nI (oln o)) lat) ++ ((wFc k (ad 3) S) ++ ((wB k (ad 4) bs bc bv bd) ++ ((wV k (ad 5) Vd Vf (nI (otn o))) ++ ((wC k (ad 6) (nI (ox o))) ++ (FW k aF X (List.range (oc o)))))))) (met_gI (fun sz => met_X6_read l D k (ad 2 0) (ad 3 0) (ad 4 0) (ad 5 0) (ad 6 0) (ad 0) (ad 1) sz (fRow (oc o) aF) dr (nI (oc o)) (oI o 0) (oI o 1) (oI o 2) (oI o 3) (oI o 4) (G 0) (oI o 5) (oI o 6) (G 1) (nI i) v2 _ _ _ _ _ _ hB)) pmUI (fun _ => pmUI)) (fun u => ⟨ad, aF, (st G 0 (upd2 (G 0) i c v2)), Ls, lat, S, X, bs, bc, bv, bd, Vd, Vf, dr, rfl, rfl, hA'⟩) (hk _ _ _ _ _ ap a0')
set_option maxHeartbeats 4000000 in
theorem bk_together (l : Launch) (D : va_G) (k : Nat → ClassId) {a0 : Nat} {o : OBk} {wb : va_W} (hb : isBk k a0 o wb) {v1 : Int32} {v2 : Int32} {v3 : Int32} {K : Int32 → OBk → Prop} (h : cb_together v1 v2 v3 o K) : CbI l D k yX6_together wsX6_together rmX6_together [.ref a0, .int v1, .int v2, .int v3] wb a0 K 0 0 := by
  obtain ⟨ad, aF, G, Ls, lat, S, X, bs, bc, bv, bd, Vd, Vf, dr, rfl, rfl, hA⟩ := hb
  have hA0 := hA
  obtain ⟨hc, hI, ⟨hC, eC⟩, hT, hx, hL, hF⟩ := hA
  obtain ⟨i, j, hi, hj, hne, rfl, rfl, h3, hk⟩ := h
  have hB : fX6_together (nI i) (nI j) v3 (G 1) = some (G 1 i j, (upd2 (upd2 (G 1) i j v3) j i v3)) := by
    unfold fX6_together
    rw [ck_I hi, bnd0_s, ck_I hj, bnd0_s, ck_R h3, bnd0_s, if_neg (fun q => hne ((nI_eq (by omega) (by omega)).mp q)), c_together hi hj, bnd2_s]
  have v3a : -9999 ≤ v3 := Int32.not_lt.mp (fun q => h3 (Or.inl q))
  have v3b : v3 ≤ 9999 := Decidable.not_not.mp (fun q => h3 (Or.inr q))
  have hC' : okCv (upd2 (upd2 (ocv o) i j v3) j i v3) := fun a b ha hb => by
    simp only [upd2_at]
    obtain ⟨x1, x2, x3⟩ := hC a b ha hb
    by_cases a1 : a = j <;> by_cases b1 : b = i <;> by_cases a2 : a = i <;> by_cases b2 : b = j <;> simp only [a1, b1, a2, b2, if_true, if_false] <;> (try subst_vars) <;> (try simp only [if_true, if_false]) <;> first | exact ⟨rfl, v3a, v3b⟩ | (refine ⟨?_, ?_, ?_⟩ <;> simp_all) | skip
  have hA' : okAll (mkO (oc o) (oI o) (upd2 (upd2 (ocv o) i j v3) j i v3) (oln o) (ocd o) (ova o) (ose o) (ods o) (fun m => facC (senC (X m) (oI o 0)) (oI o) (upd2 (upd2 (ocv o) i j v3) j i v3) Vd Vf (nI (otn o))) (otn o) (ox o)) (st G 1 (upd2 (upd2 (G 1) i j v3) j i v3)) Ls X Vd Vf := ⟨hc, hI, ⟨hC', by rw [eC]; rfl⟩, hT, hx, hL, fun m hm => ⟨(hF m hm).1, (hF m hm).2.1, (hF m hm).2.2.1, (hF m hm).2.2.2.1, rfl⟩⟩
  rw [eC] at hk
  rw [eC] at hA'
  exact cbI_of (o' := (mkO (oc o) (oI o) (upd2 (upd2 (G 1) i j v3) j i v3) (oln o) (ocd o) (ova o) (ose o) (ods o) (fun m => facC (senC (X m) (oI o 0)) (oI o) (upd2 (upd2 (G 1) i j v3) j i v3) Vd Vf (nI (otn o))) (otn o) (ox o))) (fun u => (BW k ad aF (oc o) (oI o) (st G 1 (upd2 (upd2 (G 1) i j v3) j i v3)) Ls (nI (oln o)) lat S X bs bc bv bd Vd Vf (nI (otn o)) (nI (ox o)) dr)) (met_upI ((wL k (ad 2) Ls (nI (oln o)) lat) ++ ((wFc k (ad 3) S) ++ ((wB k (ad 4) bs bc bv bd) ++ ((wV k (ad 5) Vd Vf (nI (otn o))) ++ ((wC k (ad 6) (nI (ox o))) ++ (FW k aF X (List.range (oc o)))))))) (met_gI (fun sz => met_X6_together l D k (ad 2 0) (ad 3 0) (ad 4 0) (ad 5 0) (ad 6 0) (ad 0) (ad 1) sz (fRow (oc o) aF) dr (nI (oc o)) (oI o 0) (oI o 1) (oI o 2) (oI o 3) (oI o 4) (G 0) (oI o 5) (oI o 6) (G 1) (nI i) (nI j) v3 _ _ hB)) pmUI (fun _ => pmUI)) (fun u => ⟨ad, aF, (st G 1 (upd2 (upd2 (G 1) i j v3) j i v3)), Ls, lat, S, X, bs, bc, bv, bd, Vd, Vf, dr, rfl, rfl, hA'⟩) (hk _)
set_option maxHeartbeats 4000000 in
theorem bk_input (l : Launch) (D : va_G) (k : Nat → ClassId) {a0 : Nat} {o : OBk} {wb : va_W} (hb : isBk k a0 o wb) {v1 : Int32} {v2 : Int32} {K : Int32 → OBk → Prop} (h : cb_input v1 v2 o K) : CbI l D k yX6_input wsX6_input rmX6_input [.ref a0, .int v1, .int v2] wb a0 K 0 0 := by
  obtain ⟨ad, aF, G, Ls, lat, S, X, bs, bc, bv, bd, Vd, Vf, dr, rfl, rfl, hA⟩ := hb
  have hA0 := hA
  obtain ⟨hc, hI, ⟨hC, eC⟩, hT, hx, hL, hF⟩ := hA
  obtain ⟨i, hi, rfl, h2, hk⟩ := h
  have hcl := clamp_n (show i < 2 ^ 31 by omega)
  have hB : fX6_input (nI i) v2 (oI o 0) (oI o 1) (oI o 2) (oI o 3) (oI o 4) = some (inpAns (oI o 0) (oI o 1) (oI o 2) (oI o 3) (oI o 4) i v2) := by
    unfold fX6_input inpAns
    rw [ck_I hi, bnd0_s, ck_R (fun q => h2 (rg.mpr q)), bnd0_s]
    simp only [gi_n hi (show 6 < 2 ^ 31 by omega), hcl, c_degreesOf hi, c_widthOrCount hi, bnd1_s]
    rcases five h2 with rfl | rfl | rfl | rfl | rfl <;> rfl
  exact cbI_of (fun u => (BW k ad aF (oc o) (oI o) G Ls (nI (oln o)) lat S X bs bc bv bd Vd Vf (nI (otn o)) (nI (ox o)) dr)) (met_upI ((wL k (ad 2) Ls (nI (oln o)) lat) ++ ((wFc k (ad 3) S) ++ ((wB k (ad 4) bs bc bv bd) ++ ((wV k (ad 5) Vd Vf (nI (otn o))) ++ ((wC k (ad 6) (nI (ox o))) ++ (FW k aF X (List.range (oc o)))))))) (met_gI (fun sz => met_X6_input l D k (ad 2 0) (ad 3 0) (ad 4 0) (ad 5 0) (ad 6 0) (ad 0) (ad 1) sz (fRow (oc o) aF) dr (nI (oc o)) (oI o 0) (oI o 1) (oI o 2) (oI o 3) (oI o 4) (G 0) (oI o 5) (oI o 6) (G 1) (nI i) v2 _ hB)) pmUI (fun _ => pmUI)) (fun u => ⟨ad, aF, G, Ls, lat, S, X, bs, bc, bv, bd, Vd, Vf, dr, rfl, rfl, hA0⟩) (fun _ => hk)
set_option maxHeartbeats 4000000 in
theorem bk_type (l : Launch) (D : va_G) (k : Nat → ClassId) {a0 : Nat} {o : OBk} {wb : va_W} (hb : isBk k a0 o wb) {v1 : Int64} {K : Int32 → OBk → Prop} (h : cb_type v1 o K) : CbI l D k yX6_type wsX6_type rmX6_type [.ref a0, .long v1] wb a0 K 0 0 := by
  obtain ⟨ad, aF, G, Ls, lat, S, X, bs, bc, bv, bd, Vd, Vf, dr, rfl, rfl, hA⟩ := hb
  have hA0 := hA
  obtain ⟨hc, hI, ⟨hC, eC⟩, hT, hx, hL, hF⟩ := hA
  obtain ⟨n, c, hn, rfl, hz, hks, hl, hk⟩ := h
  obtain ⟨L2, hB, hL2⟩ := c_type hn hz hks hL hl
  have hA' : okAll (mkO (oc o) (oI o) (ocv o) (oln o + c) (cdAp (oln o) (ocd o) n c) (ova o) (ose o) (ods o) (ofa o) (otn o) (ox o)) G L2 X Vd Vf := ⟨hc, hI, ⟨hC, eC⟩, hT, hx, hL2, hF⟩
  exact cbI_of (fun u => (BW k ad aF (oc o) (oI o) G L2 (nI (oln o + c)) lat S X bs bc bv bd Vd Vf (nI (otn o)) (nI (ox o)) dr)) (met_upI ((wIc k (ad 1) (oI o) G) ++ ((wFc k (ad 3) S) ++ ((wB k (ad 4) bs bc bv bd) ++ ((wV k (ad 5) Vd Vf (nI (otn o))) ++ ((wC k (ad 6) (nI (ox o))) ++ (FW k aF X (List.range (oc o)))))))) (met_gI (fun sz => met_X6_type l D k (ad 1 0) (ad 3 0) (ad 4 0) (ad 5 0) (ad 6 0) (ad 0) (ad 2) sz (fRow (oc o) aF) dr (nI (oc o)) Ls (nI (oln o)) lat (lN n) _ _ _ hB)) pmUL (fun _ => pmUL)) (fun u => ⟨ad, aF, G, L2, lat, S, X, bs, bc, bv, bd, Vd, Vf, dr, rfl, rfl, hA'⟩) hk
set_option maxHeartbeats 4000000 in
theorem bk_seed (l : Launch) (D : va_G) (k : Nat → ClassId) {a0 : Nat} {o : OBk} {wb : va_W} (hb : isBk k a0 o wb) {v1 : Int32} {K : Int32 → OBk → Prop} (h : cb_seed v1 o K) : CbI l D k yX6_seed wsX6_seed rmX6_seed [.ref a0, .int v1] wb a0 K 0 0 := by
  obtain ⟨ad, aF, G, Ls, lat, S, X, bs, bc, bv, bd, Vd, Vf, dr, rfl, rfl, hA⟩ := hb
  have hA0 := hA
  obtain ⟨hc, hI, ⟨hC, eC⟩, hT, hx, hL, hF⟩ := hA
  obtain ⟨y, hy, rfl, hk⟩ := h
  have hB : fX6_seed (nI y) (nI (ox o)) = some (nI (ox o), nI y) := by
    unfold fX6_seed
    rw [ck_R (fun q => by
      rcases q with q | q
      · exact nI_pos (by omega) q
      · exact q ((nI_leI (b := 65536) (by omega) (by omega)).mpr hy)), bnd0_s]
  have hA' : okAll (mkO (oc o) (oI o) (ocv o) (oln o) (ocd o) (ova o) (ose o) (ods o) (ofa o) (otn o) y) G Ls X Vd Vf := ⟨hc, hI, ⟨hC, eC⟩, hT, hy, hL, hF⟩
  exact cbI_of (fun u => (BW k ad aF (oc o) (oI o) G Ls (nI (oln o)) lat S X bs bc bv bd Vd Vf (nI (otn o)) (nI y) dr)) (met_upI ((wIc k (ad 1) (oI o) G) ++ ((wL k (ad 2) Ls (nI (oln o)) lat) ++ ((wFc k (ad 3) S) ++ ((wB k (ad 4) bs bc bv bd) ++ ((wV k (ad 5) Vd Vf (nI (otn o))) ++ (FW k aF X (List.range (oc o)))))))) (met_gI (fun sz => met_X6_seed l D k (ad 1 0) (ad 2 0) (ad 3 0) (ad 4 0) (ad 5 0) (ad 0) (ad 6) sz (fRow (oc o) aF) dr (nI (oc o)) (nI (ox o)) (nI y) _ _ hB)) pmUC (fun _ => pmUC)) (fun u => ⟨ad, aF, G, Ls, lat, S, X, bs, bc, bv, bd, Vd, Vf, dr, rfl, rfl, hA'⟩) hk
