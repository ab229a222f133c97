/-! ===== A STEP, whichever it is ===== -/
section ST
variable {K9 : Int32 → OBk → (Nat → Int32) → (Nat → Int32) → Prop} {o : OBk} {d w : Nat → Int32}
theorem st_unit (hI : IV o d w) {a b : Nat} (ha : a < 2 ^ 31) (hb : b < 2 ^ 31) {v3 : Int32} (hK : ∀ o' d' w', IV o' d' w' → K9 1 o' d' w') : cb_unit (jrem (nI a) 6) ((jrem (nI b) 7) - 3) ((jrem (nI b / 7) 7) - 3) o (fun r47 Ob47 => LL_step_435 K9 v3 (nI a) (nI b) (fun (v12 : Int32) (v13 : Int32) (Ob : OBk) (dA : Nat → Int32) (wA : Nat → Int32) => (if v12 = v13 then (narrow .boolean (.int 1) = .int 1 ∧ K9 1 Ob dA wA) else (narrow .boolean (.int 0) = .int 0 ∧ K9 0 Ob dA wA))) 1000 r47 0 0 Ob47 d w) := by
  obtain ⟨hO, h0, h1, h2, hw, hl⟩ := hI
  have c8 : oc o ≤ 8 := hO.1
  have l6 := Nat.mod_lt a (show 0 < 6 by omega)
  have rg : ∀ n, n < 2 ^ 31 → ¬ ((jrem (nI n) 7) - 3 < -3 ∨ ¬ (jrem (nI n) 7) - 3 ≤ 3) := fun n hn => by
    have l7 := Nat.mod_lt n (show 0 < 7 by omega)
    obtain ⟨r1, r2⟩ := sub_rg (a := n % 7) (b := 3) (lo := -3) (hi := 3) (by omega) (by omega) (by rw [show (-3 : Int32).toInt = -3 by decide]; omega) (by rw [show (3 : Int32).toInt = 3 by decide]; omega)
    rw [show jrem (nI n) 7 = nI (n % 7) from jr_n hn 7 (by omega) (by omega)]
    intro y
    rcases y with y | y
    · exact absurd r1 (Int32.not_le.mpr y)
    · exact y r2
  rw [show jrem (nI a) 6 = nI (a % 6) from jr_n ha 6 (by omega) (by omega), show nI b / 7 = nI (b / 7) from dv_n hb 7 (by omega) (by omega)]
  refine ⟨a % 6, l6, rfl, rg b hb, rg (b / 7) (by omega), fun ds hO' => ?_⟩
  exact unit_l (o := mkO (oc o) (st (st (oI o) 5 (upd (oI o 5) (a % 6) ((jrem (nI b) 7) - 3))) 6 (upd (oI o 6) (a % 6) ((jrem (nI (b / 7)) 7) - 3))) (ocv o) (oln o) (ocd o) (ova o) (ose o) ds (ofa o) (otn o) (ox o)) h0 c8 (if_t rfl ⟨rfl, hK _ _ _ ⟨hO', h0, h1, h2, hw, hl⟩⟩) 1000 0 (Nat.zero_le _) (show oc o - 0 < 1000 by omega)
theorem st_tog (hI : IV o d w) {a b : Nat} (ha : a < 2 ^ 31) (hb : b < 2 ^ 31) (hK : ∀ o' d' w', IV o' d' w' → K9 1 o' d' w') : cb_together (jrem (nI a) 6) (jrem (((jrem (nI a) 6) + 1) + (jrem (nI b) 5)) 6) ((jrem (nI b / 5) 19999) - 9999) o (fun r54 Ob54 => (if r54 < ((-9999)) then (narrow .boolean (.int 0) = .int 0 ∧ K9 0 Ob54 d w) else (if 9999 < r54 then (narrow .boolean (.int 0) = .int 0 ∧ K9 0 Ob54 d w) else cb_together (jrem (((jrem (nI a) 6) + 1) + (jrem (nI b) 5)) 6) (jrem (nI a) 6) ((jrem (nI b / 5) 19999) - 9999) Ob54 (fun r57 Ob57 => (if r57 = ((jrem (nI b / 5) 19999) - 9999) then (narrow .boolean (.int 1) = .int 1 ∧ K9 1 Ob57 d w) else (narrow .boolean (.int 0) = .int 0 ∧ K9 0 Ob57 d w)))))) := by
  obtain ⟨hO, h0, h1, h2, hw, hl⟩ := hI
  have l6 := Nat.mod_lt a (show 0 < 6 by omega)
  have l5 := Nat.mod_lt b (show 0 < 5 by omega)
  have lv := Nat.mod_lt (b / 5) (show 0 < 19999 by omega)
  have lj := Nat.mod_lt (a % 6 + 1 + b % 5) (show 0 < 6 by omega)
  have ne : ¬ a % 6 = (a % 6 + 1 + b % 5) % 6 := by omega
  obtain ⟨r1, r2⟩ := sub_rg (a := b / 5 % 19999) (b := 9999) (lo := -9999) (hi := 9999) (by omega) (by omega) (by rw [show (-9999 : Int32).toInt = -9999 by decide]; omega) (by rw [show (9999 : Int32).toInt = 9999 by decide]; omega)
  rw [show jrem (nI a) 6 = nI (a % 6) from jr_n ha 6 (by omega) (by omega), show jrem (nI b) 5 = nI (b % 5) from jr_n hb 5 (by omega) (by omega), nI_1, nI_add, show jrem (nI (a % 6 + 1 + b % 5)) 6 = nI ((a % 6 + 1 + b % 5) % 6) from jr_n (by omega) 6 (by omega) (by omega), show nI b / 5 = nI (b / 5) from dv_n hb 5 (by omega) (by omega), show jrem (nI (b / 5)) 19999 = nI (b / 5 % 19999) from jr_n (by omega) 19999 (by omega) (by omega)]
  have hv : ¬ (nI (b / 5 % 19999) - 9999 < -9999 ∨ ¬ nI (b / 5 % 19999) - 9999 ≤ 9999) := fun y => by
    rcases y with y | y
    · exact absurd r1 (Int32.not_le.mpr y)
    · exact y r2
  generalize nI (b / 5 % 19999) - 9999 = v at hv
  generalize (a % 6 + 1 + b % 5) % 6 = j at lj ne
  generalize a % 6 = i at l6 ne
  obtain ⟨-, c1, c2⟩ := hO.2.2.1 i j l6 lj
  refine ⟨i, j, l6, lj, ne, rfl, rfl, hv, fun fa hO1 => if_f (Int32.not_lt.mpr c1) (if_f (Int32.not_lt.mpr c2) ⟨j, i, lj, l6, fun q => ne q.symm, rfl, rfl, hv, fun fa2 hO2 => if_t ?_ ⟨rfl, hK _ _ _ ⟨hO2, h0, h1, h2, hw, hl⟩⟩⟩)⟩
  show upd2 (upd2 (ocv o) i j v) j i v j i = v
  rw [upd2_at, if_pos rfl, if_pos rfl]
theorem st_seed (hI : IV o d w) {b : Nat} (hb : b < 2 ^ 31) {v3 v4 : Int32} (hK : ∀ o' d' w', IV o' d' w' → K9 1 o' d' w') : cb_seed (jrem (nI b) 65537) o (fun r81 Ob81 => (vp_in 2 3 ∧ ((if r81 = (d (2 : Int32).toNatClampNeg) then BL_step_712 K9 v3 v4 (nI b) r81 Ob81 d w else (vp_in 2 3 ∧ ((if (d (2 : Int32).toNatClampNeg) = ((-1)) then BL_step_712 K9 v3 v4 (nI b) r81 Ob81 d w else BL_step_717 K9 v3 v4 (nI b) r81 0 Ob81 d w))))))) := by
  have e5 : jrem (nI b) 65537 = nI (b % 65537) := jr_n hb 65537 (by omega) (by omega)
  have l := Nat.mod_lt b (show 0 < 65537 by omega)
  have hx : ox o ≤ 65536 := hI.1.2.2.2.2.1
  rw [cl2]
  refine ⟨b % 65537, by omega, e5, fun hO' => ⟨vi2, ?_⟩⟩
  have go := seed_717 (K9 := K9) (v3 := v3) (v4 := v4) (va := fun _ => 0) hI hO' hx e5 hK
  by_cases e : nI (ox o) = d 2
  · exact if_t e go
  · exact if_f e ⟨vi2, if_t (hI.2.2.2.1.resolve_right (fun q => e q.symm)) go⟩
theorem st_draw (hI : IV o d w) {a b : Nat} (ha : a < 2 ^ 31) (hb : b < 2 ^ 31) (hz : ¬ oc o = 0) {v3 : Int32} (hK : ∀ o' d' w', IV o' d' w' → K9 1 o' d' w') : cb_draw (jrem (nI a) (nI (oc o))) (1 + (jrem (nI b) 100)) o (fun r94 Ob94 => (vp_in 0 3 ∧ ((¬ nI (oc o) = 0 ∧ (cb_budget (jrem (nI a) (nI (oc o))) 4 Ob94 (fun r97 Ob97 => (if (lg_cmp r97 ((-1))) = 0 then BL_step_800 K9 v3 (nI a) (nI b) r94 0 Ob97 d w else BL_step_800 K9 v3 (nI a) (nI b) r94 1 Ob97 d w))))))) := by
  have c8 : oc o ≤ 8 := hI.1.1
  have l := Nat.mod_lt a (show 0 < oc o by omega)
  have l100 := Nat.mod_lt b (show 0 < 100 by omega)
  rw [jr_n ha (oc o) (by omega) (by omega)]
  refine ⟨a % oc o, 1 + b % 100, l, by omega, by omega, rfl, ?_, fun h y hh hs hO' => ⟨vi0, ⟨nI_ne0 (by omega) (by omega), ?_⟩⟩⟩
  · rw [show jrem (nI b) 100 = nI (b % 100) from jr_n hb 100 (by omega) (by omega), show (1 : Int32) = nI 1 from rfl, nI_add]
  · have main : ∀ s : Int64, (s = -1 → h = 0) → (if (lg_cmp s ((-1))) = 0 then BL_step_800 K9 v3 (nI a) (nI b) (nI h) 0 (mkO (oc o) (oI o) (ocv o) (oln o) (ocd o) (ova o) (ose o) (ods o) (ofa o) (otn o) y) d w else BL_step_800 K9 v3 (nI a) (nI b) (nI h) 1 (mkO (oc o) (oI o) (ocv o) (oln o) (ocd o) (ova o) (ose o) (ods o) (ofa o) (otn o) y) d w) := fun s hs => by
      by_cases e : s = -1
      · exact if_t ((lg_cmp_eq _ _).mpr e) (draw_800 hI hb hO' hh (fun _ => hs e) hK)
      · exact if_f (fun q => e ((lg_cmp_eq _ _).mp q)) (draw_800 hI hb hO' hh (fun q => absurd q n10) hK)
    have es : sdO (mkO (oc o) (oI o) (ocv o) (oln o) (ocd o) (ova o) (ose o) (ods o) (ofa o) (otn o) y) (a % oc o) = sdO o (a % oc o) := rfl
    rw [← es] at hs
    refine cbb4 (o := mkO (oc o) (oI o) (ocv o) (oln o) (ocd o) (ova o) (ose o) (ods o) (ofa o) (otn o) y) l ?_
    generalize sdO (mkO (oc o) (oI o) (ocv o) (oln o) (ocd o) (ova o) (ose o) (ods o) (ofa o) (otn o) y) (a % oc o) = s at hs ⊢
    exact main s hs
theorem st_561 (hI : IV o d w) {a b : Nat} (ha : a < 2 ^ 31) (hb : b < 2 ^ 31) {v3 : Int32} (hK : ∀ o' d' w', IV o' d' w' → K9 1 o' d' w') : BL_step_561 K9 v3 (nI a) (nI b) o d w := by
  unfold BL_step_561
  exact isRead_ok hI ha hb (fun o' d' h => ⟨rfl, hK _ _ _ h⟩)
theorem st_table (hI : IV o d w) {a b : Nat} (ha : a < 2 ^ 31) (hb : b < 2 ^ 31) {v3 : Int32} (hK : ∀ o' d' w', IV o' d' w' → K9 1 o' d' w') : (if (jrem (nI b) 5) = 0 then BL_step_598 K9 v3 (nI a) (nI b) (1 + (jrem (nI a) 30)) ((-1)) o d w else BL_step_598 K9 v3 (nI a) (nI b) (1 + (jrem (nI a) 30)) (jrem (nI b / 5) 1000) o d w) := by
  have l30 := Nat.mod_lt a (show 0 < 30 by omega)
  have l1000 := Nat.mod_lt (b / 5) (show 0 < 1000 by omega)
  rw [show jrem (nI a) 30 = nI (a % 30) from jr_n ha 30 (by omega) (by omega), show (1 : Int32) = nI 1 from rfl, nI_add]
  by_cases z : jrem (nI b) 5 = 0
  · exact if_t z (table_ok hI (by omega) (by omega) (Or.inl rfl) hK)
  · refine if_f z (table_ok hI (by omega) (by omega) (Or.inr ⟨b / 5 % 1000, l1000, ?_⟩) hK)
    rw [show nI b / 5 = nI (b / 5) from dv_n hb 5 (by omega) (by omega)]
    exact jr_n (by omega) 1000 (by omega) (by omega)
theorem step_ok (hI : IV o d w) {a b c : Nat} (ha : a < 2 ^ 31) (hb : b < 2 ^ 31) (hc : c < 2 ^ 31) (hK : ∀ o' d' w', IV o' d' w' → K9 1 o' d' w') : wL_step (nI c) (nI a) (nI b) o d w K9 := by
  have e14 : jrem (nI c) 14 = nI (c % 14) := jr_n hc 14 (by omega) (by omega)
  have e6 : jrem (nI a) 6 = nI (a % 6) := jr_n ha 6 (by omega) (by omega)
  have l14 := Nat.mod_lt c (show 0 < 14 by omega)
  have l6 := Nat.mod_lt a (show 0 < 6 by omega)
  have h0 := hI.2.1
  unfold wL_step
  rw [e14]
  generalize hk : c % 14 = k at l14
  rcases (show k = 0 ∨ k = 1 ∨ k = 2 ∨ k = 3 ∨ k = 4 ∨ k = 5 ∨ k = 6 ∨ k = 7 ∨ k = 8 ∨ k = 9 ∨ k = 10 ∨ k = 11 ∨ k = 12 ∨ k = 13 by omega) with e | e | e | e | e | e | e | e | e | e | e | e | e | e
  · rw [e]
    refine if_t rfl ?_
    rw [e6]
    exact shape_ok hI ha hb l6 hK
  · rw [e]
    refine if_f (by decide) (if_t rfl ?_)
    rw [e6]
    exact shape_ok hI ha hb l6 hK
  · rw [e]
    refine if_f (by decide) (if_f (by decide) (if_t rfl ?_))
    rw [e6]
    exact read_ok hI hb l6 hK
  · rw [e]
    refine if_f (by decide) (if_f (by decide) (if_f (by decide) (if_t rfl ?_)))
    rw [e6]
    exact read_ok hI hb l6 hK
  · rw [e]
    exact if_f (by decide) (if_f (by decide) (if_f (by decide) (if_f (by decide) (if_t rfl (st_unit hI ha hb hK)))))
  · rw [e]
    exact if_f (by decide) (if_f (by decide) (if_f (by decide) (if_f (by decide) (if_f (by decide) (if_t rfl (st_tog hI ha hb hK))))))
  · rw [e]
    exact if_f (by decide) (if_f (by decide) (if_f (by decide) (if_f (by decide) (if_f (by decide) (if_f (by decide) (if_t rfl (st_561 hI ha hb hK)))))))
  · rw [e]
    exact if_f (by decide) (if_f (by decide) (if_f (by decide) (if_f (by decide) (if_f (by decide) (if_f (by decide) (if_f (by decide) (if_t rfl (st_561 hI ha hb hK))))))))
  · rw [e]
    exact if_f (by decide) (if_f (by decide) (if_f (by decide) (if_f (by decide) (if_f (by decide) (if_f (by decide) (if_f (by decide) (if_f (by decide) (if_t rfl (st_561 hI ha hb hK)))))))))
  · rw [e]
    exact if_f (by decide) (if_f (by decide) (if_f (by decide) (if_f (by decide) (if_f (by decide) (if_f (by decide) (if_f (by decide) (if_f (by decide) (if_f (by decide) (if_t rfl (st_561 hI ha hb hK))))))))))
  · rw [e]
    exact if_f (by decide) (if_f (by decide) (if_f (by decide) (if_f (by decide) (if_f (by decide) (if_f (by decide) (if_f (by decide) (if_f (by decide) (if_f (by decide) (if_f (by decide) (if_t rfl (st_table hI ha hb hK)))))))))))
  · rw [e]
    exact if_f (by decide) (if_f (by decide) (if_f (by decide) (if_f (by decide) (if_f (by decide) (if_f (by decide) (if_f (by decide) (if_f (by decide) (if_f (by decide) (if_f (by decide) (if_f (by decide) (if_t rfl (st_seed hI hb hK))))))))))))
  · rw [e]
    refine if_f (by decide) (if_f (by decide) (if_f (by decide) (if_f (by decide) (if_f (by decide) (if_f (by decide) (if_f (by decide) (if_f (by decide) (if_f (by decide) (if_f (by decide) (if_f (by decide) (if_f (by decide) ?_)))))))))))
    rw [cl0, h0]
    refine ⟨vi0, ?_⟩
    by_cases z : oc o = 0
    · exact if_t (by rw [z]; rfl) ⟨rfl, hK _ _ _ hI⟩
    · have c8 : oc o ≤ 8 := hI.1.1
      exact if_f (fun y => z ((nI_eq (b := 0) (by omega) (by omega)).mp y)) ⟨vi0, ⟨nI_ne0 (by omega) (by omega), st_draw hI ha hb z hK⟩⟩
  · rw [e]
    refine if_f (by decide) (if_f (by decide) (if_f (by decide) (if_f (by decide) (if_f (by decide) (if_f (by decide) (if_f (by decide) (if_f (by decide) (if_f (by decide) (if_f (by decide) (if_f (by decide) (if_f (by decide) ?_)))))))))))
    rw [cl0, h0]
    refine ⟨vi0, ?_⟩
    by_cases z : oc o = 0
    · exact if_t (by rw [z]; rfl) ⟨rfl, hK _ _ _ hI⟩
    · have c8 : oc o ≤ 8 := hI.1.1
      exact if_f (fun y => z ((nI_eq (b := 0) (by omega) (by omega)).mp y)) ⟨vi0, ⟨nI_ne0 (by omega) (by omega), st_draw hI ha hb z hK⟩⟩
end ST
