set_option maxHeartbeats 4000000 in
theorem bk_disagrees (l : Launch) (D : va_G) (k : Nat → ClassId) {a0 : Nat} {o : OBk} {wb : va_W} (hb : isBk k a0 o wb) {v1 : Int32} {K : Int32 → OBk → Prop} (h : cb_disagrees v1 o K) : CbI l D k yX6_disagrees wsX6_disagrees rmX6_disagrees [.ref a0, .int v1] wb a0 K 0 0 := by
  obtain ⟨ad, aF, G, Ls, lat, S, X, bs, bc, bv, bd, Vd, Vf, dr, rfl, rfl, hA⟩ := hb
  have hA0 := hA
  obtain ⟨hc, hI, ⟨hC, eC⟩, hT, hx, hL, hF⟩ := hA
  obtain ⟨m, hm, rfl, hk⟩ := h
  have hM := (hF m hm).1
  obtain ⟨f1, f2, f3, f4, f5⟩ := hF m hm
  obtain ⟨X2, e, -⟩ := f_dis f1 (oI o 5) (oI o 6) ((X m).1 4)
  have hB : fX6_disagrees (nI m) (fRow (oc o) aF) (oI o 5) (oI o 6) ((X m).1 0) ((X m).1 1) ((X m).1 2) ((X m).1 3) ((X m).1 4) (X m).2.2.1 (X m).2.2.2 (aF m 0) = some (ods o m, X2) := by
    unfold fX6_disagrees
    rw [gF_s hc hm, e, bnd2_s, f4]
  exact cbI_of (o' := o) (fun u => (BW k ad aF (oc o) (oI o) G Ls (nI (oln o)) lat S (setF X m (st (X m).1 4 X2, (X m).2)) bs bc bv bd Vd Vf (nI (otn o)) (nI (ox o)) dr)) (met_upI ((wL k (ad 2) Ls (nI (oln o)) lat) ++ ((wFc k (ad 3) S) ++ ((wB k (ad 4) bs bc bv bd) ++ ((wV k (ad 5) Vd Vf (nI (otn o))) ++ ((wC k (ad 6) (nI (ox o))) ++ (FW k aF X (others (oc o) m))))))) (met_gI (fun sz => met_X6_disagrees l D k (ad 2 0) (ad 3 0) (ad 4 0) (ad 5 0) (ad 6 0) (ad 0) (ad 1) (aF m) sz (fRow (oc o) aF) dr (nI (oc o)) (oI o 0) (oI o 1) (oI o 2) (oI o 3) (oI o 4) (G 0) (oI o 5) (oI o 6) (G 1) ((X m).1 0) ((X m).1 1) ((X m).1 2) ((X m).1 3) ((X m).2.1 0) ((X m).2.1 1) ((X m).1 4) (X m).2.2.1 (X m).2.2.2 (nI m) _ _ hB)) (pmUIF (FW_pick hm)) (fun _ => (pmUIF (FW_put hm).symm))) (fun u => ⟨ad, aF, G, Ls, lat, S, (setF X m (st (X m).1 4 X2, (X m).2)), bs, bc, bv, bd, Vd, Vf, dr, rfl, rfl, (okAll_set hA0 ⟨rfl, rfl, rfl, rfl, rfl⟩)⟩) (fun _ => hk)
set_option maxHeartbeats 4000000 in
theorem bk_value (l : Launch) (D : va_G) (k : Nat → ClassId) {a0 : Nat} {o : OBk} {wb : va_W} (hb : isBk k a0 o wb) {v1 : Int32} {K : Int64 → OBk → Prop} (h : cb_value v1 o K) : CbL l D k yX6_value wsX6_value rmX6_value [.ref a0, .int v1] wb a0 K 0 0 := by
  obtain ⟨ad, aF, G, Ls, lat, S, X, bs, bc, bv, bd, Vd, Vf, dr, rfl, rfl, hA⟩ := hb
  have hA0 := hA
  obtain ⟨hc, hI, ⟨hC, eC⟩, hT, hx, hL, hF⟩ := hA
  obtain ⟨m, hm, rfl, hk⟩ := h
  have hM := (hF m hm).1
  obtain ⟨f1, f2, f3, f4, f5⟩ := hF m hm
  obtain ⟨X2, e⟩ := f_val f1 (oI o 0) ((X m).2.1 0)
  have hB : fX6_value (nI m) (fRow (oc o) aF) (oI o 0) ((X m).1 0) ((X m).1 1) ((X m).1 2) ((X m).2.1 0) (X m).2.2.1 (X m).2.2.2 (aF m 0) = some (ova o m, X2) := by
    unfold fX6_value
    rw [gF_s hc hm, e, bnd2_s, f2]
  exact cbL_of (o' := o) (fun u => (BW k ad aF (oc o) (oI o) G Ls (nI (oln o)) lat S (setF X m ((X m).1, st (X m).2.1 0 X2, (X m).2.2)) bs bc bv bd Vd Vf (nI (otn o)) (nI (ox o)) dr)) (met_upL ((wL k (ad 2) Ls (nI (oln o)) lat) ++ ((wFc k (ad 3) S) ++ ((wB k (ad 4) bs bc bv bd) ++ ((wV k (ad 5) Vd Vf (nI (otn o))) ++ ((wC k (ad 6) (nI (ox o))) ++ (FW k aF X (others (oc o) m))))))) (met_gL (fun sz => met_X6_value l D k (ad 2 0) (ad 3 0) (ad 4 0) (ad 5 0) (ad 6 0) (ad 0) (ad 1) (aF m) sz (fRow (oc o) aF) dr (nI (oc o)) (oI o 0) (oI o 1) (oI o 2) (oI o 3) (oI o 4) (G 0) (oI o 5) (oI o 6) (G 1) ((X m).1 0) ((X m).1 1) ((X m).1 2) ((X m).1 3) ((X m).2.1 0) ((X m).2.1 1) ((X m).1 4) (X m).2.2.1 (X m).2.2.2 (nI m) _ _ hB)) (pmUIF (FW_pick hm)) (fun _ => (pmUIF (FW_put hm).symm))) (fun u => ⟨ad, aF, G, Ls, lat, S, (setF X m ((X m).1, st (X m).2.1 0 X2, (X m).2.2)), bs, bc, bv, bd, Vd, Vf, dr, rfl, rfl, (okAll_set hA0 ⟨rfl, rfl, rfl, rfl, rfl⟩)⟩) (fun _ => hk)
set_option maxHeartbeats 4000000 in
theorem bk_sensitivity (l : Launch) (D : va_G) (k : Nat → ClassId) {a0 : Nat} {o : OBk} {wb : va_W} (hb : isBk k a0 o wb) {v1 : Int32} {v2 : Int32} {K : Int64 → OBk → Prop} (h : cb_sensitivity v1 v2 o K) : CbL l D k yX6_sensitivity wsX6_sensitivity rmX6_sensitivity [.ref a0, .int v1, .int v2] wb a0 K 0 0 := by
  obtain ⟨ad, aF, G, Ls, lat, S, X, bs, bc, bv, bd, Vd, Vf, dr, rfl, rfl, hA⟩ := hb
  have hA0 := hA
  obtain ⟨hc, hI, ⟨hC, eC⟩, hT, hx, hL, hF⟩ := hA
  obtain ⟨m, i, hm, hi, rfl, rfl, hk⟩ := h
  have hM := (hF m hm).1
  obtain ⟨f1, f2, f3, f4, f5⟩ := hF m hm
  obtain ⟨X2, W2, e⟩ := f_sen f1 (oI o 0) i ((X m).2.1 0) ((X m).2.1 1)
  have hB : fX6_sensitivity (nI m) (nI i) (fRow (oc o) aF) (oI o 0) ((X m).1 0) ((X m).1 1) ((X m).1 2) ((X m).2.1 0) ((X m).2.1 1) (X m).2.2.1 (X m).2.2.2 (aF m 0) = some (ose o m i, X2, W2) := by
    unfold fX6_sensitivity
    rw [gF_s hc hm, ck_I hi, bnd0_s, e, bnd3_s, f3]
  exact cbL_of (o' := o) (fun u => (BW k ad aF (oc o) (oI o) G Ls (nI (oln o)) lat S (setF X m ((X m).1, st (st (X m).2.1 0 X2) 1 W2, (X m).2.2)) bs bc bv bd Vd Vf (nI (otn o)) (nI (ox o)) dr)) (met_upL ((wL k (ad 2) Ls (nI (oln o)) lat) ++ ((wFc k (ad 3) S) ++ ((wB k (ad 4) bs bc bv bd) ++ ((wV k (ad 5) Vd Vf (nI (otn o))) ++ ((wC k (ad 6) (nI (ox o))) ++ (FW k aF X (others (oc o) m))))))) (met_gL (fun sz => met_X6_sensitivity l D k (ad 2 0) (ad 3 0) (ad 4 0) (ad 5 0) (ad 6 0) (ad 0) (ad 1) (aF m) sz (fRow (oc o) aF) dr (nI (oc o)) (oI o 0) (oI o 1) (oI o 2) (oI o 3) (oI o 4) (G 0) (oI o 5) (oI o 6) (G 1) ((X m).1 0) ((X m).1 1) ((X m).1 2) ((X m).1 3) ((X m).2.1 0) ((X m).2.1 1) ((X m).1 4) (X m).2.2.1 (X m).2.2.2 (nI m) (nI i) _ _ _ hB)) (pmUIF (FW_pick hm)) (fun _ => (pmUIF (FW_put hm).symm))) (fun u => ⟨ad, aF, G, Ls, lat, S, (setF X m ((X m).1, st (st (X m).2.1 0 X2) 1 W2, (X m).2.2)), bs, bc, bv, bd, Vd, Vf, dr, rfl, rfl, (okAll_set hA0 ⟨rfl, rfl, rfl, rfl, rfl⟩)⟩) (fun _ => hk)
set_option maxHeartbeats 4000000 in
theorem bk_sensitivityAnew (l : Launch) (D : va_G) (k : Nat → ClassId) {a0 : Nat} {o : OBk} {wb : va_W} (hb : isBk k a0 o wb) {v1 : Int32} {v2 : Int32} {K : Int64 → OBk → Prop} (h : cb_sensitivityAnew v1 v2 o K) : CbL l D k yX6_sensitivityAnew wsX6_sensitivityAnew rmX6_sensitivityAnew [.ref a0, .int v1, .int v2] wb a0 K 0 0 := by
  obtain ⟨ad, aF, G, Ls, lat, S, X, bs, bc, bv, bd, Vd, Vf, dr, rfl, rfl, hA⟩ := hb
  have hA0 := hA
  obtain ⟨hc, hI, ⟨hC, eC⟩, hT, hx, hL, hF⟩ := hA
  obtain ⟨m, i, hm, hi, rfl, rfl, hk⟩ := h
  have hM := (hF m hm).1
  obtain ⟨f1, f2, f3, f4, f5⟩ := hF m hm
  obtain ⟨X2, A2, w2, e, ew⟩ := f_back f1 (oI o 0) ((X m).2.1 0) ((X m).2.1 1) bs
  have hB : fX6_sensitivityAnew (nI m) (nI i) (fRow (oc o) aF) (oI o 0) ((X m).1 0) ((X m).1 1) ((X m).1 2) ((X m).2.1 0) ((X m).2.1 1) (X m).2.2.1 (X m).2.2.2 bs (aF m 0) = some (ose o m i, X2, A2, w2) := by
    unfold fX6_sensitivityAnew
    rw [gF_s hc hm, ck_I hi, bnd0_s, e, bnd3_s, gi_n hi (by omega), clamp_n (by omega), ew i hi, f3]
  exact cbL_of (o' := o) (fun u => (BW k ad aF (oc o) (oI o) G Ls (nI (oln o)) lat S (setF X m ((X m).1, st (st (X m).2.1 0 X2) 1 A2, (X m).2.2)) w2 bc bv bd Vd Vf (nI (otn o)) (nI (ox o)) dr)) (met_upL ((wL k (ad 2) Ls (nI (oln o)) lat) ++ ((wFc k (ad 3) S) ++ ((wV k (ad 5) Vd Vf (nI (otn o))) ++ ((wC k (ad 6) (nI (ox o))) ++ (FW k aF X (others (oc o) m)))))) (met_gL (fun sz => met_X6_sensitivityAnew l D k (ad 2 0) (ad 3 0) (ad 5 0) (ad 6 0) (ad 0) (ad 1) (aF m) (ad 4) sz (fRow (oc o) aF) dr (nI (oc o)) (oI o 0) (oI o 1) (oI o 2) (oI o 3) (oI o 4) (G 0) (oI o 5) (oI o 6) (G 1) ((X m).1 0) ((X m).1 1) ((X m).1 2) ((X m).1 3) ((X m).2.1 0) ((X m).2.1 1) ((X m).1 4) (X m).2.2.1 (X m).2.2.2 bs bc bv bd (nI m) (nI i) _ _ _ _ hB)) (pmUIFB (FW_pick hm)) (fun _ => (pmUIFB (FW_put hm).symm))) (fun u => ⟨ad, aF, G, Ls, lat, S, (setF X m ((X m).1, st (st (X m).2.1 0 X2) 1 A2, (X m).2.2)), w2, bc, bv, bd, Vd, Vf, dr, rfl, rfl, (okAll_set hA0 ⟨rfl, rfl, rfl, rfl, rfl⟩)⟩) (fun _ => hk)
