set_option maxHeartbeats 4000000 in
theorem bk_budget (l : Launch) (D : va_G) (k : Nat → ClassId) {a0 : Nat} {o : OBk} {wb : va_W} (hb : isBk k a0 o wb) {v1 : Int32} {v2 : Int32} {K : Int64 → OBk → Prop} (h : cb_budget v1 v2 o K) : CbL l D k yX6_budget wsX6_budget rmX6_budget [.ref a0, .int v1, .int v2] wb a0 K 0 0 := by
  obtain ⟨ad, aF, G, Ls, lat, S, X, bs, bc, bv, bd, Vd, Vf, dr, rfl, rfl, hA⟩ := hb
  have hA0 := hA
  obtain ⟨hc, hI, ⟨hC, eC⟩, hT, hx, hL, hF⟩ := hA
  obtain ⟨m, hm, rfl, h4, hk⟩ := h
  have hM := (hF m hm).1
  obtain ⟨f1, f2, f3, f4, f5⟩ := hF m hm
  obtain ⟨w2, X2, A2, e, ew⟩ := f_reckon f1 (oI o 0) (oI o 1) (oI o 4) (G 1) bs bc bv bd ((X m).2.1 0) ((X m).2.1 1)
  have ev : varTo (senC (X m) (oI o 0)) (oI o 1) (G 1) 6 = vrO o m := by
    unfold vrO
    rw [f3, eC]
  have ep : ∀ j, j < 6 → conTo w2 (oI o 1) bc 6 j = ptO o m j := fun j hj => by
    rw [conTo_lt hj, ew j hj]
    unfold ptO
    rw [f3]
  have hfc : fX0_factor (degSum (oI o 4) (partOf (senC (X m) (oI o 0)) (oI o 1)) (vrO o m) 6) Vd Vf (nI (otn o)) = some (ofa o m) := by
    have := (f_fac hT (senC (X m) (oI o 0)) (oI o) (ocv o)).1
    rw [eC, ev] at this
    rw [this, f5, eC]
  have hst : fX0_statedDoubt (vrO o m) (degSum (oI o 4) (partOf (senC (X m) (oI o 0)) (oI o 1)) (vrO o m) 6) Vd Vf (nI (otn o)) = some (sdO o m) := by
    unfold fX0_statedDoubt sdO
    rw [(c_doubt (vrO o m)).1, bnd1_s, hfc, bnd1_s]
    by_cases c1 : dbt (vrO o m) = -1
    · rw [if_pos ((lg_cmp_eq _ _).mpr c1), if_pos c1]
    · rw [if_neg (fun q => c1 ((lg_cmp_eq _ _).mp q)), if_neg c1]
      by_cases c2 : ofa o m = -1
      · rw [if_pos c2, if_pos c2]
      · rw [if_neg c2, if_neg c2]
  have hB : fX6_budget (nI m) v2 (fRow (oc o) aF) (oI o 0) (oI o 1) (oI o 4) (G 1) ((X m).1 0) ((X m).1 1) ((X m).1 2) ((X m).2.1 0) ((X m).2.1 1) (X m).2.2.1 (X m).2.2.2 bs bc bv bd Vd Vf (nI (otn o)) (aF m 0) = some (budO o m v2, X2, A2, w2, conTo w2 (oI o 1) bc 6, vrO o m, degSum (oI o 4) (partOf (senC (X m) (oI o 0)) (oI o 1)) (vrO o m) 6) := by
    unfold fX6_budget budO
    rcases h4 with rfl | rfl | rfl | rfl
    · rw [gF_s hc hm, ck_R (by decide), bnd0_s, e, bnd6_s, ev]
      rfl
    · rw [gF_s hc hm, ck_R (by decide), bnd0_s, e, bnd6_s, ev, (c_doubt (vrO o m)).1]
      rfl
    · rw [gF_s hc hm, ck_R (by decide), bnd0_s, e, bnd6_s, ev, hfc]
      rfl
    · rw [gF_s hc hm, ck_R (by decide), bnd0_s, e, bnd6_s, ev, hst]
      rfl
  exact cbL_of (o' := o) (fun u => (BW k ad aF (oc o) (oI o) G Ls (nI (oln o)) lat S (setF X m ((X m).1, st (st (X m).2.1 0 X2) 1 A2, (X m).2.2)) w2 (conTo w2 (oI o 1) bc 6) (vrO o m) (degSum (oI o 4) (partOf (senC (X m) (oI o 0)) (oI o 1)) (vrO o m) 6) Vd Vf (nI (otn o)) (nI (ox o)) dr)) (met_upL ((wL k (ad 2) Ls (nI (oln o)) lat) ++ ((wFc k (ad 3) S) ++ ((wC k (ad 6) (nI (ox o))) ++ (FW k aF X (others (oc o) m))))) (met_gL (fun sz => met_X6_budget l D k (ad 2 0) (ad 3 0) (ad 6 0) (ad 0) (ad 1) (aF m) (ad 4) (ad 5) sz (fRow (oc o) aF) dr (nI (oc o)) (oI o 0) (oI o 1) (oI o 2) (oI o 3) (oI o 4) (G 0) (oI o 5) (oI o 6) (G 1) ((X m).1 0) ((X m).1 1) ((X m).1 2) ((X m).1 3) ((X m).2.1 0) ((X m).2.1 1) ((X m).1 4) (X m).2.2.1 (X m).2.2.2 bs bc bv bd Vd Vf (nI (otn o)) (nI m) v2 _ _ _ _ _ _ _ hB)) (pmUIFBV (FW_pick hm)) (fun _ => (pmUIFBV (FW_put hm).symm))) (fun u => ⟨ad, aF, G, Ls, lat, S, (setF X m ((X m).1, st (st (X m).2.1 0 X2) 1 A2, (X m).2.2)), w2, (conTo w2 (oI o 1) bc 6), (vrO o m), (degSum (oI o 4) (partOf (senC (X m) (oI o 0)) (oI o 1)) (vrO o m) 6), Vd, Vf, dr, rfl, rfl, (okAll_set hA0 ⟨rfl, rfl, rfl, rfl, rfl⟩)⟩) (fun _ => hk)
set_option maxHeartbeats 4000000 in
theorem bk_contribution (l : Launch) (D : va_G) (k : Nat → ClassId) {a0 : Nat} {o : OBk} {wb : va_W} (hb : isBk k a0 o wb) {v1 : Int32} {v2 : Int32} {v3 : Int32} {K : Int64 → OBk → Prop} (h : cb_contribution v1 v2 v3 o K) : CbL l D k yX6_contribution wsX6_contribution rmX6_contribution [.ref a0, .int v1, .int v2, .int v3] wb a0 K 0 0 := by
  obtain ⟨ad, aF, G, Ls, lat, S, X, bs, bc, bv, bd, Vd, Vf, dr, rfl, rfl, hA⟩ := hb
  have hA0 := hA
  obtain ⟨hc, hI, ⟨hC, eC⟩, hT, hx, hL, hF⟩ := hA
  obtain ⟨m, i, hm, hi, rfl, rfl, hk⟩ := h
  have hM := (hF m hm).1
  obtain ⟨f1, f2, f3, f4, f5⟩ := hF m hm
  obtain ⟨w2, X2, A2, e, ew⟩ := f_reckon f1 (oI o 0) (oI o 1) (oI o 4) (G 1) bs bc bv bd ((X m).2.1 0) ((X m).2.1 1)
  have ev : varTo (senC (X m) (oI o 0)) (oI o 1) (G 1) 6 = vrO o m := by
    unfold vrO
    rw [f3, eC]
  have ep : ∀ j, j < 6 → conTo w2 (oI o 1) bc 6 j = ptO o m j := fun j hj => by
    rw [conTo_lt hj, ew j hj]
    unfold ptO
    rw [f3]
  have hB : fX6_contribution (nI m) (nI i) v3 (fRow (oc o) aF) (oI o 0) (oI o 1) (oI o 4) (G 1) ((X m).1 0) ((X m).1 1) ((X m).1 2) ((X m).2.1 0) ((X m).2.1 1) (X m).2.2.1 (X m).2.2.2 bs bc bv bd (aF m 0) = some ((if v3 = 0 then ptO o m i else shareAt (ptO o m i) (vrO o m)), X2, A2, w2, conTo w2 (oI o 1) bc 6, vrO o m, degSum (oI o 4) (partOf (senC (X m) (oI o 0)) (oI o 1)) (vrO o m) 6) := by
    unfold fX6_contribution
    rw [gF_s hc hm, ck_I hi, bnd0_s, e, bnd6_s, ev]
    by_cases c0 : v3 = 0
    · rw [if_pos c0, if_pos c0, gi_n hi (by omega), clamp_n (by omega), ep i hi]
    · rw [if_neg c0, if_neg c0, c_shareOf hi, bnd1_s, ep i hi]
  exact cbL_of (o' := o) (fun u => (BW k ad aF (oc o) (oI o) G Ls (nI (oln o)) lat S (setF X m ((X m).1, st (st (X m).2.1 0 X2) 1 A2, (X m).2.2)) w2 (conTo w2 (oI o 1) bc 6) (vrO o m) (degSum (oI o 4) (partOf (senC (X m) (oI o 0)) (oI o 1)) (vrO o m) 6) Vd Vf (nI (otn o)) (nI (ox o)) dr)) (met_upL ((wL k (ad 2) Ls (nI (oln o)) lat) ++ ((wFc k (ad 3) S) ++ ((wV k (ad 5) Vd Vf (nI (otn o))) ++ ((wC k (ad 6) (nI (ox o))) ++ (FW k aF X (others (oc o) m)))))) (met_gL (fun sz => met_X6_contribution l D k (ad 2 0) (ad 3 0) (ad 5 0) (ad 6 0) (ad 0) (ad 1) (aF m) (ad 4) sz (fRow (oc o) aF) dr (nI (oc o)) (oI o 0) (oI o 1) (oI o 2) (oI o 3) (oI o 4) (G 0) (oI o 5) (oI o 6) (G 1) ((X m).1 0) ((X m).1 1) ((X m).1 2) ((X m).1 3) ((X m).2.1 0) ((X m).2.1 1) ((X m).1 4) (X m).2.2.1 (X m).2.2.2 bs bc bv bd (nI m) (nI i) v3 _ _ _ _ _ _ _ hB)) (pmUIFB (FW_pick hm)) (fun _ => (pmUIFB (FW_put hm).symm))) (fun u => ⟨ad, aF, G, Ls, lat, S, (setF X m ((X m).1, st (st (X m).2.1 0 X2) 1 A2, (X m).2.2)), w2, (conTo w2 (oI o 1) bc 6), (vrO o m), (degSum (oI o 4) (partOf (senC (X m) (oI o 0)) (oI o 1)) (vrO o m) 6), Vd, Vf, dr, rfl, rfl, (okAll_set hA0 ⟨rfl, rfl, rfl, rfl, rfl⟩)⟩) (fun _ => hk)
set_option maxHeartbeats 4000000 in
theorem bk_ranked (l : Launch) (D : va_G) (k : Nat → ClassId) {a0 : Nat} {o : OBk} {wb : va_W} (hb : isBk k a0 o wb) {v1 : Int32} {v2 : Int32} {K : Int32 → OBk → Prop} (h : cb_ranked v1 v2 o K) : CbI l D k yX6_ranked wsX6_ranked rmX6_ranked [.ref a0, .int v1, .int v2] wb a0 K 0 0 := by
  obtain ⟨ad, aF, G, Ls, lat, S, X, bs, bc, bv, bd, Vd, Vf, dr, rfl, rfl, hA⟩ := hb
  have hA0 := hA
  obtain ⟨hc, hI, ⟨hC, eC⟩, hT, hx, hL, hF⟩ := hA
  obtain ⟨m, p, hm, hp, rfl, rfl, hk⟩ := h
  have hM := (hF m hm).1
  obtain ⟨f1, f2, f3, f4, f5⟩ := hF m hm
  obtain ⟨w2, X2, A2, e, ew⟩ := f_reckon f1 (oI o 0) (oI o 1) (oI o 4) (G 1) bs bc bv bd ((X m).2.1 0) ((X m).2.1 1)
  have ev : varTo (senC (X m) (oI o 0)) (oI o 1) (G 1) 6 = vrO o m := by
    unfold vrO
    rw [f3, eC]
  have ep : ∀ j, j < 6 → conTo w2 (oI o 1) bc 6 j = ptO o m j := fun j hj => by
    rw [conTo_lt hj, ew j hj]
    unfold ptO
    rw [f3]
  obtain ⟨r, er, hr9⟩ := c_atRank (conTo w2 (oI o 1) bc 6) hp
  have ec : ∀ j, j < 6 → rankTo (conTo w2 (oI o 1) bc 6) j 6 = rankTo (ptO o m) j 6 := fun j hj => rankTo_congr ep hj 6 (Nat.le_refl _)
  have hB : fX6_ranked (nI m) (nI p) (fRow (oc o) aF) (oI o 0) (oI o 1) (oI o 4) (G 1) ((X m).1 0) ((X m).1 1) ((X m).1 2) ((X m).2.1 0) ((X m).2.1 1) (X m).2.2.1 (X m).2.2.2 bs bc bv bd (aF m 0) = some (r, X2, A2, w2, conTo w2 (oI o 1) bc 6, vrO o m, degSum (oI o 4) (partOf (senC (X m) (oI o 0)) (oI o 1)) (vrO o m) 6) := by
    unfold fX6_ranked
    rw [gF_s hc hm, if_pos (nI_pos' (by omega)), e, bnd6_s, er, bnd1_s, ev]
  exact cbI_of (o' := o) (fun u => (BW k ad aF (oc o) (oI o) G Ls (nI (oln o)) lat S (setF X m ((X m).1, st (st (X m).2.1 0 X2) 1 A2, (X m).2.2)) w2 (conTo w2 (oI o 1) bc 6) (vrO o m) (degSum (oI o 4) (partOf (senC (X m) (oI o 0)) (oI o 1)) (vrO o m) 6) Vd Vf (nI (otn o)) (nI (ox o)) dr)) (met_upI ((wL k (ad 2) Ls (nI (oln o)) lat) ++ ((wFc k (ad 3) S) ++ ((wV k (ad 5) Vd Vf (nI (otn o))) ++ ((wC k (ad 6) (nI (ox o))) ++ (FW k aF X (others (oc o) m)))))) (met_gI (fun sz => met_X6_ranked l D k (ad 2 0) (ad 3 0) (ad 5 0) (ad 6 0) (ad 0) (ad 1) (aF m) (ad 4) sz (fRow (oc o) aF) dr (nI (oc o)) (oI o 0) (oI o 1) (oI o 2) (oI o 3) (oI o 4) (G 0) (oI o 5) (oI o 6) (G 1) ((X m).1 0) ((X m).1 1) ((X m).1 2) ((X m).1 3) ((X m).2.1 0) ((X m).2.1 1) ((X m).1 4) (X m).2.2.1 (X m).2.2.2 bs bc bv bd (nI m) (nI p) _ _ _ _ _ _ _ hB)) (pmUIFB (FW_pick hm)) (fun _ => (pmUIFB (FW_put hm).symm))) (fun u => ⟨ad, aF, G, Ls, lat, S, (setF X m ((X m).1, st (st (X m).2.1 0 X2) 1 A2, (X m).2.2)), w2, (conTo w2 (oI o 1) bc 6), (vrO o m), (degSum (oI o 4) (partOf (senC (X m) (oI o 0)) (oI o 1)) (vrO o m) 6), Vd, Vf, dr, rfl, rfl, (okAll_set hA0 ⟨rfl, rfl, rfl, rfl, rfl⟩)⟩) (fun _ => hk r (hr9.elim (fun ⟨j, j1, j2, j3⟩ => Or.inl ⟨j, j1, j2, (ec j j1).symm.trans j3⟩) (fun q => Or.inr ⟨q.1, fun j hj y => q.2 j hj ((ec j hj).trans y)⟩)))
set_option maxHeartbeats 4000000 in
theorem bk_draw (l : Launch) (D : va_G) (k : Nat → ClassId) {a0 : Nat} {o : OBk} {wb : va_W} (hb : isBk k a0 o wb) {v1 : Int32} {v2 : Int32} {K : Int32 → OBk → Prop} (h : cb_draw v1 v2 o K) : CbI l D k yX6_draw wsX6_draw rmX6_draw [.ref a0, .int v1, .int v2] wb a0 K 0 0 := by
  obtain ⟨ad, aF, G, Ls, lat, S, X, bs, bc, bv, bd, Vd, Vf, dr, rfl, rfl, hA⟩ := hb
  have hA0 := hA
  obtain ⟨hc, hI, ⟨hC, eC⟩, hT, hx, hL, hF⟩ := hA
  obtain ⟨m, d, hm, hd1, hd2, rfl, rfl, hk⟩ := h
  have hM := (hF m hm).1
  obtain ⟨f1, f2, f3, f4, f5⟩ := hF m hm
  obtain ⟨w2, X2, A2, e, ew⟩ := f_reckon f1 (oI o 0) (oI o 1) (oI o 4) (G 1) bs bc bv bd ((X m).2.1 0) ((X m).2.1 1)
  have ev : varTo (senC (X m) (oI o 0)) (oI o 1) (G 1) 6 = vrO o m := by
    unfold vrO
    rw [f3, eC]
  have ep : ∀ j, j < 6 → conTo w2 (oI o 1) bc 6 j = ptO o m j := fun j hj => by
    rw [conTo_lt hj, ew j hj]
    unfold ptO
    rw [f3]
  have hfc : fX0_factor (degSum (oI o 4) (partOf (senC (X m) (oI o 0)) (oI o 1)) (vrO o m) 6) Vd Vf (nI (otn o)) = some (ofa o m) := by
    have := (f_fac hT (senC (X m) (oI o 0)) (oI o) (ocv o)).1
    rw [eC, ev] at this
    rw [this, f5, eC]
  have hst : fX0_statedDoubt (vrO o m) (degSum (oI o 4) (partOf (senC (X m) (oI o 0)) (oI o 1)) (vrO o m) 6) Vd Vf (nI (otn o)) = some (sdO o m) := by
    unfold fX0_statedDoubt sdO
    rw [(c_doubt (vrO o m)).1, bnd1_s, hfc, bnd1_s]
    by_cases c1 : dbt (vrO o m) = -1
    · rw [if_pos ((lg_cmp_eq _ _).mpr c1), if_pos c1]
    · rw [if_neg (fun q => c1 ((lg_cmp_eq _ _).mp q)), if_neg c1]
      by_cases c2 : ofa o m = -1
      · rw [if_pos c2, if_pos c2]
      · rw [if_neg c2, if_neg c2]
  obtain ⟨nn, rt, hn, hrt, en, er, hok, -⟩ := id f1
  have evl : ∀ V, fX3_reckonBy ((X m).1 0) ((X m).1 1) ((X m).1 2) V (X m).2.2.1 (X m).2.2.2 (oI o 0) = some (valsTo ((X m).1 0) ((X m).1 1) ((X m).1 2) (oI o 0) nn V rt, valsTo ((X m).1 0) ((X m).1 1) ((X m).1 2) (oI o 0) nn V) := fun V => by
    rw [en, er]
    exact c_reckonBy hn hok (by omega) (oI o 0) V
  obtain ⟨y, h9, u9, X9, hy, hh, hz, eL⟩ := c_draw_loop hn hrt hok hI hd2 (fRow (oc o) aF) (oI o 1) (G 1) Vd Vf (nI (otn o)) (nI m) (aF m 0) (sdO o m) (valsTo ((X m).1 0) ((X m).1 1) ((X m).1 2) (oI o 0) nn X2 rt) A2 w2 (conTo w2 (oI o 1) bc 6) (vrO o m) (degSum (oI o 4) (partOf (senC (X m) (oI o 0)) (oI o 1)) (vrO o m) 6) (fun (v8 : Int32) (Udrawn : Nat → Int32) (Fvalues : Nat → Int64) (Fslopes : Nat → Int64) (Bslopes : Nat → Int64) (Bcontributions : Nat → Int64) (Bvariance : Int64) (BdegreesSum : Int64) (Cx : Int32) => some (v8, Udrawn, Fvalues, Fslopes, Bslopes, Bcontributions, Bvariance, BdegreesSum, Cx)) 1000 0 (ox o) 0 dr (valsTo ((X m).1 0) ((X m).1 1) ((X m).1 2) (oI o 0) nn X2) (by omega) (by omega) hx (by omega) (fun _ => rfl)
  have hA' : okAll (mkO (oc o) (oI o) (ocv o) (oln o) (ocd o) (ova o) (ose o) (ods o) (ofa o) (otn o) y) G Ls X Vd Vf := ⟨hc, hI, ⟨hC, eC⟩, hT, hy, hL, hF⟩
  have hB : fX6_draw (nI m) (nI d) (fRow (oc o) aF) dr (oI o 0) (oI o 1) (oI o 2) (oI o 3) (oI o 4) (G 0) (G 1) ((X m).1 0) ((X m).1 1) ((X m).1 2) ((X m).2.1 0) ((X m).2.1 1) (X m).2.2.1 (X m).2.2.2 bs bc bv bd Vd Vf (nI (otn o)) (nI (ox o)) (aF m 0) = some (nI h9, u9, X9, A2, w2, conTo w2 (oI o 1) bc 6, vrO o m, degSum (oI o 4) (partOf (senC (X m) (oI o 0)) (oI o 1)) (vrO o m) 6, nI y) := by
    unfold fX6_draw
    rw [gF_s hc hm, ck_R (fun q => by
      rcases q with q | q
      · have := (nI_ltI (b := 1) (by omega) (by omega)).mp q
        omega
      · exact q ((nI_leI (b := 100) (by omega) (by omega)).mpr hd2)), bnd0_s, e, bnd6_s, ev, hst, bnd1_s, evl, bnd2_s, en, er]
    exact eL
  exact cbI_of (o' := (mkO (oc o) (oI o) (ocv o) (oln o) (ocd o) (ova o) (ose o) (ods o) (ofa o) (otn o) y)) (fun u => (BW k ad aF (oc o) (oI o) G Ls (nI (oln o)) lat S (setF X m ((X m).1, st (st (X m).2.1 0 X9) 1 A2, (X m).2.2)) w2 (conTo w2 (oI o 1) bc 6) (vrO o m) (degSum (oI o 4) (partOf (senC (X m) (oI o 0)) (oI o 1)) (vrO o m) 6) Vd Vf (nI (otn o)) (nI y) u9)) (met_upI ((wL k (ad 2) Ls (nI (oln o)) lat) ++ ((wFc k (ad 3) S) ++ (FW k aF X (others (oc o) m)))) (met_gI (fun sz => met_X6_draw l D k (ad 2 0) (ad 3 0) (ad 0) (ad 1) (aF m) (ad 4) (ad 5) (ad 6) sz (fRow (oc o) aF) dr (nI (oc o)) (oI o 0) (oI o 1) (oI o 2) (oI o 3) (oI o 4) (G 0) (oI o 5) (oI o 6) (G 1) ((X m).1 0) ((X m).1 1) ((X m).1 2) ((X m).1 3) ((X m).2.1 0) ((X m).2.1 1) ((X m).1 4) (X m).2.2.1 (X m).2.2.2 bs bc bv bd Vd Vf (nI (otn o)) (nI (ox o)) (nI m) (nI d) _ _ _ _ _ _ _ _ _ hB)) (pmUIFBVC (FW_pick hm)) (fun _ => (pmUIFBVC (FW_put hm).symm))) (fun u => ⟨ad, aF, G, Ls, lat, S, (setF X m ((X m).1, st (st (X m).2.1 0 X9) 1 A2, (X m).2.2)), w2, (conTo w2 (oI o 1) bc 6), (vrO o m), (degSum (oI o 4) (partOf (senC (X m) (oI o 0)) (oI o 1)) (vrO o m) 6), Vd, Vf, u9, rfl, rfl, (okAll_set hA' ⟨rfl, rfl, rfl, rfl, rfl⟩)⟩) (hk h9 y hh hz)
