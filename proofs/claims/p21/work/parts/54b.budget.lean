theorem bud_434 {o : OBk} {m : Nat} {V : Int64} {K9 : Int32 → OBk → Prop} (h : BL_isBudget_461 K9 (nI m) V 1 o) {f : Int32} {sd s : Int64} (e : sd = s) (f1 : -1 ≤ f) (f2 : f ≤ 999) : BL_isBudget_434 K9 (nI m) V f.toInt64 sd s o := by
  rw [le_i] at f1 f2
  have z1 : (-1 : Int32).toInt = -1 := by decide
  have z2 : (999 : Int32).toInt = 999 := by decide
  have y1 : (-1 : Int64).toInt = -1 := by decide
  have y2 : (1000 : Int64).toInt = 1000 := by decide
  have g1 : ¬ lg_cmp f.toInt64 (-1) < 0 := fun q => by
    rw [lg_cmp_lt, Int64.lt_iff_toInt_lt, Int32.toInt_toInt64, y1] at q
    rw [z1] at f1
    omega
  have g2 : ¬ 0 ≤ lg_cmp f.toInt64 1000 := fun q => by
    rw [lg_cmp_ge, Int64.le_iff_toInt_le, Int32.toInt_toInt64, y2] at q
    rw [z2] at f2
    omega
  unfold BL_isBudget_434
  rw [if_pos ((lg_cmp_eq _ _).mpr e), if_neg g1, if_neg g2]
  exact h
theorem sd_1 {o : OBk} {m : Nat} (h : dbt (vrO o m) = -1) : sdO o m = -1 := by
  unfold sdO
  exact if_pos h
theorem sd_2 {o : OBk} {m : Nat} (h : ¬ dbt (vrO o m) = -1) (g : ofa o m = -1) : sdO o m = -1 := by
  unfold sdO
  rw [if_neg h, if_pos g]
theorem sd_3 {o : OBk} {m : Nat} (h : ¬ dbt (vrO o m) = -1) (g : ¬ ofa o m = -1) : sdO o m = dbt (vrO o m) * (ofa o m).toInt64 / 100 := by
  unfold sdO
  rw [if_neg h, if_neg g]
theorem bud_375 {o : OBk} (hF : OFo o) {m : Nat} (hm : m < oc o) {K9 : Int32 → OBk → Prop} (hK : K9 1 o) : BL_isBudget_375 K9 (nI m) (vrO o m) (dbt (vrO o m)) o := by
  have end_ := bud_461 hF hm hK
  obtain ⟨f1, f2⟩ := (hF.2.2.2.2.2.2.2.2 m hm).2
  have e1 := @sd_1 o m
  have e2 := @sd_2 o m
  have e3 := @sd_3 o m
  unfold BL_isBudget_375 BL_isBudget_380
  generalize hsd : sdO o m = sd at *
  generalize hd : dbt (vrO o m) = d at *
  refine cbb3 hm (if_f n10 (cbb4 hm ?_))
  rw [hsd]
  by_cases c1 : d = -1
  · refine if_t ((lg_cmp_eq _ _).mpr c1) ?_
    unfold BL_isBudget_419
    exact bud_434 end_ (e1 c1) f1 f2
  · refine if_f (fun q => c1 ((lg_cmp_eq _ _).mp q)) ?_
    by_cases c2 : ofa o m = -1
    · refine if_t ((lg_cmp_eq _ _).mpr (toI64_m1.mpr c2)) ?_
      unfold BL_isBudget_419
      exact bud_434 end_ (e2 c1 c2) f1 f2
    · refine if_f (fun q => c2 (toI64_m1.mp ((lg_cmp_eq _ _).mp q))) ?_
      exact bud_434 end_ (e3 c1 c2) f1 f2
theorem bud_286 {o : OBk} (hF : OFo o) {m : Nat} (hm : m < oc o) {K9 : Int32 → OBk → Prop} (hK : K9 1 o) {v2 : Int64} (hv : v2 = vrO o m) : BL_isBudget_286 K9 (nI m) v2 1 o := by
  have nx := bud_375 hF hm hK
  obtain ⟨-, d1, d2⟩ := c_doubt (vrO o m)
  have c0 := @cbb0 o m hm
  have c1 := @cbb1 o m hm
  unfold BL_isBudget_286
  generalize dbt (vrO o m) = d at *
  generalize vrO o m = V at *
  refine c0 (c1 (if_f n10 (if_t ((lg_cmp_eq _ _).mpr hv) ?_)))
  by_cases c : V < 0
  · refine if_f (fun q => lg_lt_not_le c ((lg_cmp_ge _ _).mp q)) ?_
    refine if_t ((lg_cmp_eq _ _).mpr (d1 c)) ?_
    exact nx
  · obtain ⟨v, q, v1, v2, v3, v4, v5⟩ := d2 c
    have hq := sq_small v4 v1
    have hqq := Nat.mul_le_mul hq hq
    have ge : 0 ≤ V := Int64.not_lt.mp c
    have n1 : ¬ lg_cmp d 0 < 0 := fun y => by
      rw [lg_cmp_lt, v3] at y
      have := (pk_lLT (b := 0) (by omega) (by omega)).mp y
      omega
    have n2 : ¬ 0 < lg_cmp (d * d) V := fun y => by
      rw [lg_cmp_gt, v3, lN_mul, v2, pk_lLT v1 (by omega)] at y
      omega
    refine if_t ((lg_cmp_ge _ _).mpr ge) (if_f n1 (if_f n2 ?_))
    by_cases g : 3000000000 < q
    · have n3 : 0 < lg_cmp d 3000000000 := by
        rw [lg_cmp_gt, v3]
        exact (pk_lLT (a := 3000000000) (by omega) (by omega)).mpr g
      exact if_t n3 nx
    · have g2 := Nat.mul_le_mul (show q + 1 ≤ 3000000001 by omega) (show q + 1 ≤ 3000000001 by omega)
      have n3 : ¬ 0 < lg_cmp d 3000000000 := fun y => by
        rw [lg_cmp_gt, v3] at y
        have := (pk_lLT (a := 3000000000) (by omega) (by omega)).mp y
        omega
      have n4 : ¬ lg_cmp ((d + 1) * (d + 1)) V ≤ 0 := fun y => by
        rw [lg_cmp_le, v3, lN_1, lN_mul, v2, pk_lLE (by omega) v1] at y
        omega
      exact if_f n3 (if_f n4 nx)
/-- THE BUDGET's check holds of every book, and leaves it as it was but for its factors -/
theorem budget_ok {o : OBk} (hO : OFo o) {m : Nat} (hm : m < oc o) {K9 : Int32 → OBk → Prop} (hK : ∀ fa, OFo (oF o fa) → K9 1 (oF o fa)) : wL_isBudget (nI m) o K9 := by
  have hC := hO.2.2.1
  unfold wL_isBudget
  refine bud_l1 hm (o := o) ?_ 1000 0 (by omega) (by omega)
  show LL_isBudget_101 K9 (nI m) (fun v2 v4 Ob => BL_isBudget_286 K9 (nI m) v2 v4 Ob) 1000 (sumTo (ptO o m) 6) 1 0 o
  have h := bud_l2 (K9 := K9) (E := fun v2 v4 Ob => BL_isBudget_286 K9 (nI m) v2 v4 Ob) (o := o) hm hC (sumTo (ptO o m) 6) (fun fa hF => bud_286 hF hm (hK fa hF) (bud_sum hC m)) 1000 0 (ofa o) hO (by omega) (by omega)
  rw [show sumTo (ptO o m) 6 + sumTo (ctP o m) 0 = sumTo (ptO o m) 6 from Int64.add_zero _] at h
  exact h
