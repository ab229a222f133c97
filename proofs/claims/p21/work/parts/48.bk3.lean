set_option maxHeartbeats 4000000 in
theorem bk_unit (l : Launch) (D : va_G) (k : Nat → ClassId) {a0 : Nat} {o : OBk} {wb : va_W} (hb : isBk k a0 o wb) {v1 : Int32} {v2 : Int32} {v3 : Int32} {K : Int32 → OBk → Prop} (h : cb_unit v1 v2 v3 o K) : CbI l D k yX6_unit wsX6_unit rmX6_unit [.ref a0, .int v1, .int v2, .int v3] wb a0 K 0 0 := by
  obtain ⟨ad, aF, G, Ls, lat, S, X, bs, bc, bv, bd, Vd, Vf, dr, rfl, rfl, hA⟩ := hb
  have hA0 := hA
  obtain ⟨hc, hI, ⟨hC, eC⟩, hT, hx, hL, hF⟩ := hA
  obtain ⟨i, hi, rfl, r2, r3, hk⟩ := h
  have hcl := clamp_n (show i < 2 ^ 31 by omega)
  have hMU := fun sz => met_X6_unit l D k (ad 0) (ad 1) (ad 2 0) (ad 3 0) (ad 4 0) (ad 5 0) (ad 6 0) sz (fRow (oc o) aF) dr (nI (oc o)) (oI o 0) (oI o 1) (oI o 2) (oI o 3) (oI o 4) (G 0) (oI o 5) (oI o 6) (G 1) (FW k aF (askF X (fun j => fdE (X j) (upd (oI o 5) i v2) (upd (oI o 6) i v3)) 0) (List.range (oc o))) (FW k aF (askF X (fun j => fdE (X j) (upd (oI o 5) i v2) (upd (oI o 6) i v3)) (oc o)) (List.range (oc o))) (nI i) v2 v3 (ck_I hi) (ck_R r2) (ck_R r3) (vin6 hi) (nI (cntD (fun j => disC (X j) (upd (oI o 5) i v2) (upd (oI o 6) i v3)) (oc o))) (fun sz => by
    rw [hcl]
    exact met_X6_countDisagreeing l D k (ad 0) (ad 1) (ad 2 0) (ad 3 0) (ad 4 0) (ad 5 0) (ad 6 0) sz dr (nI (oc o)) (oI o 0) (oI o 1) (oI o 2) (oI o 3) (oI o 4) (G 0) (upd (oI o 5) i v2) (upd (oI o 6) i v3) (G 1) (oc o) hc aF X (fun j => disC (X j) (upd (oI o 5) i v2) (upd (oI o 6) i v3)) (fun j => fdE (X j) (upd (oI o 5) i v2) (upd (oI o 6) i v3)) (fun j hj => f_disE (hF j hj).1 _ _))
  rw [askF_0, hcl] at hMU
  have s4 : ∀ j, same4 (X j) (askF X (fun j => fdE (X j) (upd (oI o 5) i v2) (upd (oI o 6) i v3)) (oc o) j) := fun j => by
    unfold askF
    by_cases e : j < oc o
    · rw [if_pos e]
      exact ⟨rfl, rfl, rfl, rfl, rfl⟩
    · rw [if_neg e]
      exact ⟨rfl, rfl, rfl, rfl, rfl⟩
  have hA' : okAll (mkO (oc o) (st (st (oI o) 5 (upd (oI o 5) i v2)) 6 (upd (oI o 6) i v3)) (ocv o) (oln o) (ocd o) (ova o) (ose o) (fun j => disC (X j) (upd (oI o 5) i v2) (upd (oI o 6) i v3)) (ofa o) (otn o) (ox o)) G Ls (askF X (fun j => fdE (X j) (upd (oI o 5) i v2) (upd (oI o 6) i v3)) (oc o)) Vd Vf := ⟨hc, hI, ⟨hC, eC⟩, hT, hx, hL, fun j hj => by
    obtain ⟨f1, f2, f3, f4, f5⟩ := hF j hj
    obtain ⟨t1, t2, t3, t4⟩ := same4_C (s4 j)
    rw [t2, t3, t4]
    exact ⟨t1 f1, f2, f3, rfl, f5⟩⟩
  exact cbI_of (o' := (mkO (oc o) (st (st (oI o) 5 (upd (oI o 5) i v2)) 6 (upd (oI o 6) i v3)) (ocv o) (oln o) (ocd o) (ova o) (ose o) (fun j => disC (X j) (upd (oI o 5) i v2) (upd (oI o 6) i v3)) (ofa o) (otn o) (ox o))) (fun u => (BW k ad aF (oc o) (st (st (oI o) 5 (upd (oI o 5) i v2)) 6 (upd (oI o 6) i v3)) G Ls (nI (oln o)) lat S (askF X (fun j => fdE (X j) (upd (oI o 5) i v2) (upd (oI o 6) i v3)) (oc o)) bs bc bv bd Vd Vf (nI (otn o)) (nI (ox o)) dr)) (met_upI ((wL k (ad 2) Ls (nI (oln o)) lat) ++ ((wFc k (ad 3) S) ++ ((wB k (ad 4) bs bc bv bd) ++ ((wV k (ad 5) Vd Vf (nI (otn o))) ++ (wC k (ad 6) (nI (ox o))))))) (met_gI (fun sz => hMU sz)) pmUIA (fun _ => pmUIA)) (fun u => ⟨ad, aF, G, Ls, lat, S, (askF X (fun j => fdE (X j) (upd (oI o 5) i v2) (upd (oI o 6) i v3)) (oc o)), bs, bc, bv, bd, Vd, Vf, dr, rfl, rfl, hA'⟩) (hk _)
set_option maxHeartbeats 4000000 in
/-- the table is told: it answers, or is full -/
theorem bk_table (l : Launch) (D : va_G) (k : Nat → ClassId) {a0 : Nat} {o : OBk} {wb : va_W} (hb : isBk k a0 o wb) {v1 v2 : Int32} {K : Int32 → OBk → Prop} (h : cb_table v1 v2 o K) : CbI l D k yX6_table wsX6_table rmX6_table [.ref a0, .int v1, .int v2] wb a0 K 0 0 ∨ (K (-2) o ∧ ∃ (ad aF : Nat → Nat → Nat) (Vd Vf : Nat → Int32) (dr : Nat → Int32) (rest : va_W), a0 = ad 0 0 ∧ ((wU k (ad 0) (ad 1 0) (ad 2 0) (ad 3 0) (ad 4 0) (ad 5 0) (ad 6 0) (fRow (oc o) aF) dr (nI (oc o)) ++ wV k (ad 5) Vd Vf (nI (otn o))) ++ rest).Perm wb ∧ fX6_checkRange v1 1 9999 = some () ∧ fX6_checkRange v2 (-1) 999 = some () ∧ ¬ v2 = -1 ∧ fX2_hasRoomFor v1 Vd (nI (otn o)) = some 0) := by
  obtain ⟨ad, aF, G, Ls, lat, S, X, bs, bc, bv, bd, Vd, Vf, dr, rfl, rfl, hA⟩ := hb
  have hA0 := hA
  obtain ⟨hc, hI, ⟨hC, eC⟩, hT, hx, hL, hF⟩ := hA
  obtain ⟨hbad, hk, hfull⟩ := h
  have r1 : fX6_checkRange v1 1 9999 = some () := ck_R (fun q => hbad ((rg.mpr q).elim Or.inl (fun q => Or.inr (Or.inl q))))
  have r2 : fX6_checkRange v2 (-1) 999 = some () := ck_R (fun q => hbad ((rg.mpr q).elim (fun q => Or.inr (Or.inr (Or.inl q))) (fun q => Or.inr (Or.inr (Or.inr q)))))
  have ok : ∀ (n' : Nat) (D' F' : Nat → Int32), okTb n' D' F' → n' ≤ otn o + 1 → otn o ≤ n' + 1 → fX6_table v1 v2 Vd Vf (nI (otn o)) = some (nI n', D', F', nI n') → CbI l D k yX6_table wsX6_table rmX6_table [.ref (ad 0 0), .int v1, .int v2] (BW k ad aF (oc o) (oI o) G Ls (nI (oln o)) lat S X bs bc bv bd Vd Vf (nI (otn o)) (nI (ox o)) dr) (ad 0 0) K 0 0 := fun n' D' F' hT' h1 h2 hB => by
    have hA' : okAll (mkO (oc o) (oI o) (ocv o) (oln o) (ocd o) (ova o) (ose o) (ods o) (fun m => facC (senC (X m) (oI o 0)) (oI o) (ocv o) D' F' (nI n')) n' (ox o)) G Ls X D' F' := ⟨hc, hI, ⟨hC, eC⟩, hT', hx, hL, fun m hm => ⟨(hF m hm).1, (hF m hm).2.1, (hF m hm).2.2.1, (hF m hm).2.2.2.1, rfl⟩⟩
    exact cbI_of (o' := (mkO (oc o) (oI o) (ocv o) (oln o) (ocd o) (ova o) (ose o) (ods o) (fun m => facC (senC (X m) (oI o 0)) (oI o) (ocv o) D' F' (nI n')) n' (ox o))) (fun u => (BW k ad aF (oc o) (oI o) G Ls (nI (oln o)) lat S X bs bc bv bd D' F' (nI n') (nI (ox o)) dr)) (met_upI ((wIc k (ad 1) (oI o) G) ++ ((wL k (ad 2) Ls (nI (oln o)) lat) ++ ((wFc k (ad 3) S) ++ ((wB k (ad 4) bs bc bv bd) ++ ((wC k (ad 6) (nI (ox o))) ++ (FW k aF X (List.range (oc o)))))))) (met_gI (fun sz => met_X6_table l D k (ad 1 0) (ad 2 0) (ad 3 0) (ad 4 0) (ad 6 0) (ad 0) (ad 5) sz (fRow (oc o) aF) dr (nI (oc o)) Vd Vf (nI (otn o)) v1 v2 _ _ _ _ hB)) pmUV (fun _ => pmUV)) (fun u => ⟨ad, aF, G, Ls, lat, S, X, bs, bc, bv, bd, D', F', dr, rfl, rfl, hA'⟩) (hk n' _ h1 h2)
  by_cases c : v2 = -1
  · obtain ⟨n', D', F', e1, e2, e3, e4⟩ := c_tab_out hT v1
    left
    refine ok n' D' F' e2 (by omega) (by omega) ?_
    unfold fX6_table
    rw [r1, bnd0_s, r2, bnd0_s, if_pos c, e1, bnd3_s]
    rfl
  · rcases c_tab_in hT hbad with ⟨n', D', F', e0, e1, e2, e3, e4⟩ | ⟨e0, e1⟩
    · left
      refine ok n' D' F' e2 (by omega) (by omega) ?_
      unfold fX6_table
      rw [r1, bnd0_s, r2, bnd0_s, if_neg c, e0, bnd1_s, if_neg (by decide), e1, bnd3_s]
      rfl
    · right
      exact ⟨hfull e1, ad, aF, Vd, Vf, dr, ((wIc k (ad 1) (oI o) G) ++ ((wL k (ad 2) Ls (nI (oln o)) lat) ++ ((wFc k (ad 3) S) ++ ((wB k (ad 4) bs bc bv bd) ++ ((wC k (ad 6) (nI (ox o))) ++ (FW k aF X (List.range (oc o)))))))), rfl, pmUV, r1, r2, c, e0⟩
set_option maxHeartbeats 4000000 in
theorem bk_model (l : Launch) (D : va_G) (k : Nat → ClassId) {a0 : Nat} {o : OBk} {wb : va_W} (hb : isBk k a0 o wb) {v1 : Int32} {K : Int32 → OBk → Prop} (h : cb_model v1 o K) : CbI l D k yX6_model wsX6_model rmX6_model [.ref a0, .int v1] wb a0 K 8 429 := by
  obtain ⟨ad, aF, G, Ls, lat, S, X, bs, bc, bv, bd, Vd, Vf, dr, rfl, rfl, hA⟩ := hb
  have hA0 := hA
  obtain ⟨hc, hI, ⟨hC, eC⟩, hT, hx, hL, hF⟩ := hA
  obtain ⟨m, hm8, hmc, rfl, h⟩ := h
  have c1 : ¬ nI m < 0 := nI_pos (by omega)
  have c2 : nI m ≤ nI (oc o) := (nI_leI (by omega) (by omega)).mpr hmc
  have c3 : nI m < 8 := (nI_ltI (b := 8) (by omega) (by omega)).mpr hm8
  have hcl := clamp_n (show m < 2 ^ 31 by omega)
  have hL0 : LnK 0 (fun _ => 0) Ls := ⟨by omega, fun a ha => absurd ha (Nat.not_lt_zero _), fun _ _ => rfl⟩
  rcases h with ⟨hok, hk⟩ | ⟨hbad, hk⟩
  · obtain ⟨n, j, q', e1, n1, n2, hj, hrows, hpl⟩ := hok Ls lat S.1 S.2.2.1 S.2.2.2 hL
    have hl60 := hL.1
    have hZ : okFo (st (st (st (st S.1 0 (q' 0)) 1 (q' 1)) 2 (q' 2)) 3 (q' 3), S.2.1, nI n, nI j) := ⟨n, j, by omega, hj, rfl, rfl, hrows, hpl⟩
    by_cases e : m = oc o
    · rw [if_pos e] at hk
      have hfn : fRow (oc o) aF (nI m).toNatClampNeg = none := by
        rw [hcl]
        exact if_neg (by omega)
      have efr : va_up (fRow (oc o) aF) (nI m).toNatClampNeg (some (ad 3 0)) = fRow (oc o + 1) (st aF (oc o) (ad 3)) := funext fun i => by
        rw [hcl]
        show (if i = m then some (ad 3 0) else if i < oc o then some (aF i 0) else none) = if i < oc o + 1 then some ((if i = oc o then ad 3 else aF i) 0) else none
        by_cases a : i = m
        · rw [if_pos a, if_pos (by omega), if_pos (by omega)]
        · by_cases b : i < oc o
          · rw [if_neg a, if_pos b, if_pos (by omega), if_neg (by omega)]
          · rw [if_neg a, if_neg b, if_neg (by omega)]
      have hMU := fun sz => met_X6_model_new l D k (ad 0) (ad 2) (ad 3) (ad 1 0) (ad 4 0) (ad 5 0) (ad 6 0) sz (fRow (oc o) aF) dr (nI (oc o)) Ls (nI (oln o)) lat 0 (nI (oln o)) (S.1 0) (S.1 1) (S.1 2) (S.1 3) (q' 0) (q' 1) (q' 2) (q' 3) (S.1 4) (S.2.1 0) (S.2.1 1) S.2.2.1 S.2.2.2 (nI n) (nI j) (-1) (nI m) c1 c2 c3 (vin8 hm8) e1 rfl hfn (by rw [e])
      rw [efr, nI_1] at hMU
      have hA' : okAll (mkO (oc o + 1) (oI o) (ocv o) 0 (fun _ => 0) (fun i => valC (setF X (oc o) (st (st (st (st S.1 0 (q' 0)) 1 (q' 1)) 2 (q' 2)) 3 (q' 3), S.2.1, nI n, nI j) i) (oI o 0)) (fun i => senC (setF X (oc o) (st (st (st (st S.1 0 (q' 0)) 1 (q' 1)) 2 (q' 2)) 3 (q' 3), S.2.1, nI n, nI j) i) (oI o 0)) (fun i => disC (setF X (oc o) (st (st (st (st S.1 0 (q' 0)) 1 (q' 1)) 2 (q' 2)) 3 (q' 3), S.2.1, nI n, nI j) i) (oI o 5) (oI o 6)) (fun i => facC (senC (setF X (oc o) (st (st (st (st S.1 0 (q' 0)) 1 (q' 1)) 2 (q' 2)) 3 (q' 3), S.2.1, nI n, nI j) i) (oI o 0)) (oI o) (ocv o) Vd Vf (nI (otn o))) (otn o) (ox o)) G Ls (setF X (oc o) (st (st (st (st S.1 0 (q' 0)) 1 (q' 1)) 2 (q' 2)) 3 (q' 3), S.2.1, nI n, nI j)) Vd Vf := ⟨show oc o + 1 ≤ 8 by omega, hI, ⟨hC, eC⟩, hT, hx, hL0, fun i hi => ⟨by
        show okFo (if i = oc o then _ else X i)
        by_cases a : i = oc o
        · rw [if_pos a]
          exact hZ
        · rw [if_neg a]
          exact (hF i (by have : i < oc o + 1 := hi; omega)).1, rfl, rfl, rfl, rfl⟩⟩
      exact cbI_of (o' := mkO (oc o + 1) (oI o) (ocv o) 0 (fun _ => 0) (fun i => valC (setF X (oc o) (st (st (st (st S.1 0 (q' 0)) 1 (q' 1)) 2 (q' 2)) 3 (q' 3), S.2.1, nI n, nI j) i) (oI o 0)) (fun i => senC (setF X (oc o) (st (st (st (st S.1 0 (q' 0)) 1 (q' 1)) 2 (q' 2)) 3 (q' 3), S.2.1, nI n, nI j) i) (oI o 0)) (fun i => disC (setF X (oc o) (st (st (st (st S.1 0 (q' 0)) 1 (q' 1)) 2 (q' 2)) 3 (q' 3), S.2.1, nI n, nI j) i) (oI o 5) (oI o 6)) (fun i => facC (senC (setF X (oc o) (st (st (st (st S.1 0 (q' 0)) 1 (q' 1)) 2 (q' 2)) 3 (q' 3), S.2.1, nI n, nI j) i) (oI o 0)) (oI o) (ocv o) Vd Vf (nI (otn o))) (otn o) (ox o)) (fun u => (BW k (st ad 3 u) (st aF (oc o) (ad 3)) (oc o + 1) (oI o) G Ls 0 (nI (oln o)) ((fun _ _ => 0, fun _ _ => 0, 0, 0) : FC) (setF X (oc o) (st (st (st (st S.1 0 (q' 0)) 1 (q' 1)) 2 (q' 2)) 3 (q' 3), S.2.1, nI n, nI j)) bs bc bv bd Vd Vf (nI (otn o)) (nI (ox o)) dr)) (met_upI ((wIc k (ad 1) (oI o) G) ++ ((wB k (ad 4) bs bc bv bd) ++ ((wV k (ad 5) Vd Vf (nI (otn o))) ++ ((wC k (ad 6) (nI (ox o))) ++ (FW k aF X (List.range (oc o))))))) (fun sz => hMU sz) (by exact pmULS) (fun _ => (by exact pmNew FW_new))) (fun u => ⟨st ad 3 u, st aF (oc o) (ad 3), G, Ls, nI (oln o), ((fun _ _ => 0, fun _ _ => 0, 0, 0) : FC), setF X (oc o) (st (st (st (st S.1 0 (q' 0)) 1 (q' 1)) 2 (q' 2)) 3 (q' 3), S.2.1, nI n, nI j), bs, bc, bv, bd, Vd, Vf, dr, rfl, rfl, hA'⟩) (hk n _ _ _ _ n1 n2)
    · rw [if_neg e] at hk
      have hmlt : m < oc o := by omega
      have hfn : fRow (oc o) aF (nI m).toNatClampNeg = some (aF m 0) := by
        rw [hcl]
        exact if_pos hmlt
      have hne : ¬ nI m = nI (oc o) := fun q => e ((nI_eq (by omega) (by omega)).mp q)
      have efr : va_up (fRow (oc o) aF) (nI m).toNatClampNeg (some (ad 3 0)) = fRow (oc o) (st aF m (ad 3)) := funext fun i => by
        rw [hcl]
        show (if i = m then some (ad 3 0) else if i < oc o then some (aF i 0) else none) = if i < oc o then some ((if i = m then ad 3 else aF i) 0) else none
        by_cases a : i = m
        · rw [if_pos a, if_pos (by omega), if_pos a]
        · by_cases b : i < oc o
          · rw [if_neg a, if_pos b, if_pos b, if_neg a]
          · rw [if_neg a, if_neg b, if_neg b]
      have hMU := fun sz => met_X6_model_old l D k (ad 0) (ad 2) (ad 3) (ad 1 0) (ad 4 0) (ad 5 0) (ad 6 0) sz (fRow (oc o) aF) dr (nI (oc o)) Ls (nI (oln o)) lat 0 (nI (oln o)) (S.1 0) (S.1 1) (S.1 2) (S.1 3) (q' 0) (q' 1) (q' 2) (q' 3) (S.1 4) (S.2.1 0) (S.2.1 1) S.2.2.1 S.2.2.2 (nI n) (nI j) (-1) (nI m) c1 c2 c3 (vin8 hm8) e1 rfl (aF m 0) hfn hne
      rw [efr] at hMU
      have hA' : okAll (mkO (oc o) (oI o) (ocv o) 0 (fun _ => 0) (fun i => valC (setF X m (st (st (st (st S.1 0 (q' 0)) 1 (q' 1)) 2 (q' 2)) 3 (q' 3), S.2.1, nI n, nI j) i) (oI o 0)) (fun i => senC (setF X m (st (st (st (st S.1 0 (q' 0)) 1 (q' 1)) 2 (q' 2)) 3 (q' 3), S.2.1, nI n, nI j) i) (oI o 0)) (fun i => disC (setF X m (st (st (st (st S.1 0 (q' 0)) 1 (q' 1)) 2 (q' 2)) 3 (q' 3), S.2.1, nI n, nI j) i) (oI o 5) (oI o 6)) (fun i => facC (senC (setF X m (st (st (st (st S.1 0 (q' 0)) 1 (q' 1)) 2 (q' 2)) 3 (q' 3), S.2.1, nI n, nI j) i) (oI o 0)) (oI o) (ocv o) Vd Vf (nI (otn o))) (otn o) (ox o)) G Ls (setF X m (st (st (st (st S.1 0 (q' 0)) 1 (q' 1)) 2 (q' 2)) 3 (q' 3), S.2.1, nI n, nI j)) Vd Vf := ⟨hc, hI, ⟨hC, eC⟩, hT, hx, hL0, fun i hi => ⟨by
        show okFo (if i = m then _ else X i)
        by_cases a : i = m
        · rw [if_pos a]
          exact hZ
        · rw [if_neg a]
          exact (hF i hi).1, rfl, rfl, rfl, rfl⟩⟩
      exact cbI_of (o' := mkO (oc o) (oI o) (ocv o) 0 (fun _ => 0) (fun i => valC (setF X m (st (st (st (st S.1 0 (q' 0)) 1 (q' 1)) 2 (q' 2)) 3 (q' 3), S.2.1, nI n, nI j) i) (oI o 0)) (fun i => senC (setF X m (st (st (st (st S.1 0 (q' 0)) 1 (q' 1)) 2 (q' 2)) 3 (q' 3), S.2.1, nI n, nI j) i) (oI o 0)) (fun i => disC (setF X m (st (st (st (st S.1 0 (q' 0)) 1 (q' 1)) 2 (q' 2)) 3 (q' 3), S.2.1, nI n, nI j) i) (oI o 5) (oI o 6)) (fun i => facC (senC (setF X m (st (st (st (st S.1 0 (q' 0)) 1 (q' 1)) 2 (q' 2)) 3 (q' 3), S.2.1, nI n, nI j) i) (oI o 0)) (oI o) (ocv o) Vd Vf (nI (otn o))) (otn o) (ox o)) (fun u => (BW k (st ad 3 (aF m)) (st aF m (ad 3)) (oc o) (oI o) G Ls 0 (nI (oln o)) (X m) (setF X m (st (st (st (st S.1 0 (q' 0)) 1 (q' 1)) 2 (q' 2)) 3 (q' 3), S.2.1, nI n, nI j)) bs bc bv bd Vd Vf (nI (otn o)) (nI (ox o)) dr)) (met_upI ((wIc k (ad 1) (oI o) G) ++ ((wB k (ad 4) bs bc bv bd) ++ ((wV k (ad 5) Vd Vf (nI (otn o))) ++ ((wC k (ad 6) (nI (ox o))) ++ (FW k aF X (List.range (oc o))))))) (fun sz => hMU sz) (by exact pmULS) (fun _ => (by exact pmOld (FW_pick hmlt) (FW_putA hmlt)))) (fun u => ⟨st ad 3 (aF m), st aF m (ad 3), G, Ls, nI (oln o), X m, setF X m (st (st (st (st S.1 0 (q' 0)) 1 (q' 1)) 2 (q' 2)) 3 (q' 3), S.2.1, nI n, nI j), bs, bc, bv, bd, Vd, Vf, dr, rfl, rfl, hA'⟩) (hk n _ _ _ _ n1 n2)
  · obtain ⟨K2, L2, R2, P2, sz2, e1⟩ := hbad Ls lat S.1 S.2.2.1 S.2.2.2 hL
    have hA' : okAll (mkO (oc o) (oI o) (ocv o) 0 (fun _ => 0) (ova o) (ose o) (ods o) (ofa o) (otn o) (ox o)) G Ls X Vd Vf := ⟨hc, hI, ⟨hC, eC⟩, hT, hx, hL0, hF⟩
    have hMU := fun sz => met_X6_model_fault l D k (ad 0) (ad 2) (ad 3) (ad 1 0) (ad 4 0) (ad 5 0) (ad 6 0) sz (fRow (oc o) aF) dr (nI (oc o)) Ls (nI (oln o)) lat 0 0 (S.1 0) (S.1 1) (S.1 2) (S.1 3) K2 L2 R2 P2 (S.1 4) (S.2.1 0) (S.2.1 1) S.2.2.1 S.2.2.2 sz2 0 0 (nI m) c1 c2 c3 (vin8 hm8) e1 (by decide)
    exact cbI_of (o' := mkO (oc o) (oI o) (ocv o) 0 (fun _ => 0) (ova o) (ose o) (ods o) (ofa o) (otn o) (ox o)) (fun u => (BW k ad aF (oc o) (oI o) G Ls 0 0 (st (st (st (st S.1 0 K2) 1 L2) 2 R2) 3 P2, S.2.1, sz2, 0) X bs bc bv bd Vd Vf (nI (otn o)) (nI (ox o)) dr)) (met_upI ((wIc k (ad 1) (oI o) G) ++ ((wB k (ad 4) bs bc bv bd) ++ ((wV k (ad 5) Vd Vf (nI (otn o))) ++ ((wC k (ad 6) (nI (ox o))) ++ (FW k aF X (List.range (oc o))))))) (fun sz => hMU sz) pmULS (fun _ => (by exact pmULS))) (fun u => ⟨ad, aF, G, Ls, 0, (st (st (st (st S.1 0 K2) 1 L2) 2 R2) 3 P2, S.2.1, sz2, 0), X, bs, bc, bv, bd, Vd, Vf, dr, rfl, rfl, hA'⟩) hk
