set_option maxHeartbeats 4000000 in
set_option maxRecDepth 100000 in
theorem law_loop {p : Program} {l : Launch} {e : Env} {s : State} {m : MethodId} {below : List Frame} {meth : Method} {c : Code} {D : va_G} {k : Nat → ClassId} {b L : Nat} {xs : Nat → Int32} {a0 m0 qo : Nat} (hr : meth.sig.returnType = ret) (hlocks : meth.locks = false) (C : lwCtx p l e s m below meth c D k b L xs) : ∀ (n j : Nat), L < 5 * (j + n) → 5 * j ≤ L → lwAt p l e s m below meth c D k b a0 m0 qo (lw_Z below #[Value.ref b] s) 23 j j := by
  intro n
  induction n with
  | zero =>
    intro j h1 h2
    exact absurd h2 (by omega)
  | succ n ih =>
    intro j h1 h2
    have C' := C
    obtain ⟨hx, hb, hml, hown, hts, hX, hbl, hK, hXP, hXN, hNW, hL, hst⟩ := C
    intro th wb wm f H locs ls hI hP hD hS hl
    have hbA : ¬ lwA s b := Nat.not_le.mpr hbl
    refine lv_iload hx hb dL_law_23 (lv_at hl 4 rfl) ?_
    refine lv_aload_n hx hb dL_law_25 rfl (lv_at hl 0 rfl) ?_
    refine va_slen hx hb hX hbl hbA hS dL_law_26 ?_
    refine lv_iconst (v := 5) hx hb dL_law_27 (by decide) ?_
    refine lv_isub hx hb dL_law_28 ?_
    have e5 : (Int32.ofNat L - 5).toInt = (L : Int) - 5 := pk_sub_toInt (a := L) (b := 5) (by omega) (by omega)
    refine lv_icmp_gt (tgt := 1413) hx hb dL_law_29 (by decide) (fun q => ?_) (fun q => ?_)
    · refine lv_iconst (v := 1) hx hb dL_law_1413 (by decide) ?_
      refine va_forget (fun q hq => hS.2.2 q hq) ?_
      refine W.widen (k := 601024) (n := 7293034) (by omega) (by omega) ?_
      exact lw_ret hx hb hr hlocks dL_law_1414
    · rw [lt_i, e5, nI_toInt (by omega)] at q
      have hj : 5 * j + 5 ≤ L := by omega
      have next : lwAt p l e s m below meth c D k b a0 m0 qo (lw_Z below #[Value.ref b] s) 1407 j (j + 1) := by
        intro th wb wm f H locs ls hI hP hD hS hl
        refine lv_iinc (v := nI (5 * (j + 1))) (lv' := [(4, .int (nI (5 * (j + 1)))), (0, .ref b), (1, .ref a0), (2, .ref m0), (3, .ref qo)]) hx hb dL_law_1407 hl (k := 4) rfl (by rw [show Int32.ofInt 5 = nI 5 from by decide +kernel, nI_add]; rfl) (by decide) rfl (fun ls hl => ?_)
        refine lv_goto (tgt := 23) hx hb dL_law_1410 (by decide) ?_
        exact ih (j + 1) (by omega) (by omega) th wb wm f H locs ls hI hP hD hS (lv_sub hl [1, 2, 3, 4, 0] rfl)
      have in0 : vp_in (nI (5 * j)) L := vp_in_nI (by omega) (by omega)
      refine lv_aload_n hx hb dL_law_32 rfl (lv_at hl 0 rfl) ?_
      refine lv_iload hx hb dL_law_33 (lv_at hl 4 rfl) ?_
      refine va_sld hx hb hX hbl hbA hS in0 dL_law_35 ?_
      refine lv_bipush (v := 31) hx hb dL_law_36 (by decide) ?_
      refine lv_iand hx hb dL_law_38 ?_
      obtain ⟨t, ht, et⟩ := pk_andE (xs (nI (5 * j)).toNatClampNeg) (m := 31) 5 (by decide)
      rw [et]
      by_cases h17 : t ≤ 17
      · rcases (show t = 0 ∨ t = 1 ∨ t = 2 ∨ t = 3 ∨ t = 4 ∨ t = 5 ∨ t = 6 ∨ t = 7 ∨ t = 8 ∨ t = 9 ∨ t = 10 ∨ t = 11 ∨ t = 12 ∨ t = 13 ∨ t = 14 ∨ t = 15 ∨ t = 16 ∨ t = 17 by omega) with rfl | rfl | rfl | rfl | rfl | rfl | rfl | rfl | rfl | rfl | rfl | rfl | rfl | rfl | rfl | rfl | rfl | rfl
        · refine lv_tableIn (off := 85) (tgt := 124) hx hb dL_law_39 (by decide +kernel) (by decide +kernel) (by decide +kernel) (by decide) ?_
          exact case_shape C' hj next th wb wm f H locs ls hI hP hD hS hl
        · refine lv_tableIn (off := 177) (tgt := 216) hx hb dL_law_39 (by decide +kernel) (by decide +kernel) (by decide +kernel) (by decide) ?_
          exact case_read C' hj next th wb wm f H locs ls hI hP hD hS hl
        · refine lv_tableIn (off := 245) (tgt := 284) hx hb dL_law_39 (by decide +kernel) (by decide +kernel) (by decide +kernel) (by decide) ?_
          exact case_unit C' hj next th wb wm f H locs ls hI hP hD hS hl
        · refine lv_tableIn (off := 325) (tgt := 364) hx hb dL_law_39 (by decide +kernel) (by decide +kernel) (by decide +kernel) (by decide) ?_
          exact case_together C' hj next th wb wm f H locs ls hI hP hD hS hl
        · refine lv_tableIn (off := 405) (tgt := 444) hx hb dL_law_39 (by decide +kernel) (by decide +kernel) (by decide +kernel) (by decide) ?_
          exact case_input C' hj next th wb wm f H locs ls hI hP hD hS hl
        · refine lv_tableIn (off := 473) (tgt := 512) hx hb dL_law_39 (by decide +kernel) (by decide +kernel) (by decide +kernel) (by decide) ?_
          exact case_type C' hj next th wb wm f H locs ls hI hP hD hS hl
        · refine lv_tableIn (off := 561) (tgt := 600) hx hb dL_law_39 (by decide +kernel) (by decide +kernel) (by decide +kernel) (by decide) ?_
          exact case_model C' hj next th wb wm f H locs ls hI hP hD hS hl
        · refine lv_tableIn (off := 617) (tgt := 656) hx hb dL_law_39 (by decide +kernel) (by decide +kernel) (by decide +kernel) (by decide) ?_
          exact case_disagrees C' hj next th wb wm f H locs ls hI hP hD hS hl
        · refine lv_tableIn (off := 673) (tgt := 712) hx hb dL_law_39 (by decide +kernel) (by decide +kernel) (by decide +kernel) (by decide) ?_
          exact case_unitOf C' hj next th wb wm f H locs ls hI hP hD hS hl
        · refine lv_tableIn (off := 757) (tgt := 796) hx hb dL_law_39 (by decide +kernel) (by decide +kernel) (by decide +kernel) (by decide) ?_
          exact case_value C' hj next th wb wm f H locs ls hI hP hD hS hl
        · refine lv_tableIn (off := 812) (tgt := 851) hx hb dL_law_39 (by decide +kernel) (by decide +kernel) (by decide +kernel) (by decide) ?_
          exact case_sensitivity C' hj next th wb wm f H locs ls hI hP hD hS hl
        · refine lv_tableIn (off := 879) (tgt := 918) hx hb dL_law_39 (by decide +kernel) (by decide +kernel) (by decide +kernel) (by decide) ?_
          exact case_sensitivityAnew C' hj next th wb wm f H locs ls hI hP hD hS hl
        · refine lv_tableIn (off := 946) (tgt := 985) hx hb dL_law_39 (by decide +kernel) (by decide +kernel) (by decide +kernel) (by decide) ?_
          exact case_budget C' hj next th wb wm f H locs ls hI hP hD hS hl
        · refine lv_tableIn (off := 1013) (tgt := 1052) hx hb dL_law_39 (by decide +kernel) (by decide +kernel) (by decide +kernel) (by decide) ?_
          exact case_contribution C' hj next th wb wm f H locs ls hI hP hD hS hl
        · refine lv_tableIn (off := 1108) (tgt := 1147) hx hb dL_law_39 (by decide +kernel) (by decide +kernel) (by decide +kernel) (by decide) ?_
          exact case_ranked C' hj next th wb wm f H locs ls hI hP hD hS hl
        · refine lv_tableIn (off := 1176) (tgt := 1215) hx hb dL_law_39 (by decide +kernel) (by decide +kernel) (by decide +kernel) (by decide) ?_
          exact case_table C' hj next th wb wm f H locs ls hI hP hD hS hl
        · refine lv_tableIn (off := 1244) (tgt := 1283) hx hb dL_law_39 (by decide +kernel) (by decide +kernel) (by decide +kernel) (by decide) ?_
          exact case_seed C' hj next th wb wm f H locs ls hI hP hD hS hl
        · refine lv_tableIn (off := 1300) (tgt := 1339) hx hb dL_law_39 (by decide +kernel) (by decide +kernel) (by decide +kernel) (by decide) ?_
          exact case_draw C' hj next th wb wm f H locs ls hI hP hD hS hl
      · refine lv_tableOut (tgt := 1407) hx hb dL_law_39 (Or.inr (by rw [nI_toInt (by omega)]; omega)) (by decide) ?_
        refine W.widen (k := 200 + 8 * (j + 1)) (n := 20000 + 429 * (j + 1)) (by omega) (by omega) ?_
        exact next th wb wm f H locs ls hI hP hD hS hl
