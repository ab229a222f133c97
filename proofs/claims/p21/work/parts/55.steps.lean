/-! ===== the law's steps: each holds, and what is kept between two steps ===== -/
/-- between two steps: d counts the models, the rows of the table, and knows the seed or not; w counts the readings; the line is empty -/
def IV (o : OBk) (d w : Nat → Int32) : Prop := OFo o ∧ d 0 = nI (oc o) ∧ d 1 = nI (otn o) ∧ (d 2 = -1 ∨ d 2 = nI (ox o)) ∧ (∀ i, i < 6 → w i = oI o 4 i) ∧ oln o = 0
theorem cl0 : (0 : Int32).toNatClampNeg = 0 := by decide
theorem cl1 : (1 : Int32).toNatClampNeg = 1 := by decide
theorem cl2 : (2 : Int32).toNatClampNeg = 2 := by decide
theorem vi0 : vp_in 0 3 := vp_in_nI (n := 0) (N := 3) (by decide) (by decide)
theorem vi1 : vp_in 1 3 := vp_in_nI (n := 1) (N := 3) (by decide) (by decide)
theorem vi2 : vp_in 2 3 := vp_in_nI (n := 2) (N := 3) (by decide) (by decide)
theorem jr_n {a : Nat} (ha : a < 2 ^ 31) (d : Nat) (h0 : 0 < d) (hd : d < 2 ^ 31) : jrem (nI a) (nI d) = nI (a % d) := pk_rem ha h0 hd
theorem dv_n {a : Nat} (ha : a < 2 ^ 31) (d : Nat) (h0 : 0 < d) (hd : d < 2 ^ 31) : nI a / nI d = nI (a / d) := pk_div ha h0 hd
theorem inp_0 (E V S W C : Nat → Int32) (i : Nat) : inpAns E V S W C i 0 = E i := by
  unfold inpAns
  rw [if_neg (show ¬ (0 : Int32) = 3 by decide), if_pos rfl]
theorem inp_1 (E V S W C : Nat → Int32) (i : Nat) : inpAns E V S W C i 1 = V i := by
  unfold inpAns
  rw [if_neg (show ¬ (1 : Int32) = 3 by decide), if_neg (show ¬ (1 : Int32) = 0 by decide), if_pos rfl]
theorem inp_2 (E V S W C : Nat → Int32) (i : Nat) : inpAns E V S W C i 2 = S i := by
  unfold inpAns
  rw [if_neg (show ¬ (2 : Int32) = 3 by decide), if_neg (show ¬ (2 : Int32) = 0 by decide), if_neg (show ¬ (2 : Int32) = 1 by decide), if_pos rfl]
theorem inp_3 (E V S W C : Nat → Int32) (i : Nat) : inpAns E V S W C i 3 = degOf C i := by
  unfold inpAns
  rw [if_pos rfl]
theorem inp_4 (E V S W C : Nat → Int32) (i : Nat) : inpAns E V S W C i 4 = if S i = 4 then C i else W i := by
  unfold inpAns
  rw [if_neg (show ¬ (4 : Int32) = 3 by decide), if_neg (show ¬ (4 : Int32) = 0 by decide), if_neg (show ¬ (4 : Int32) = 1 by decide), if_neg (show ¬ (4 : Int32) = 2 by decide)]
theorem cin {o : OBk} {i : Nat} (hi : i < 6) {v r : Int32} (hv : ¬ (v < 0 ∨ 4 < v)) (e : inpAns (oI o 0) (oI o 1) (oI o 2) (oI o 3) (oI o 4) i v = r) {K : Int32 → OBk → Prop} (h : K r o) : cb_input (nI i) v o K := ⟨i, hi, rfl, hv, by rw [e]; exact h⟩
/-- a number less another, within reach -/
theorem sub_rg {a b : Nat} (ha : a < 2 ^ 30) (hb : b < 2 ^ 30) {lo hi : Int32} (h1 : lo.toInt ≤ (a : Int) - b) (h2 : (a : Int) - b ≤ hi.toInt) : lo ≤ nI a - nI b ∧ nI a - nI b ≤ hi := by
  rw [le_i, le_i, pk_sub_toInt ha hb]
  exact ⟨h1, h2⟩
abbrev shI (o : OBk) (i : Nat) (v2 v3 v4 : Int32) : TT := st (st (st (st (st (oI o) 0 (upd (oI o 0) i v2)) 1 (upd (oI o 1) i (varOf v3 v4))) 2 (upd (oI o 2) i v3)) 3 (upd (oI o 3) i v4)) 4 (upd (oI o 4) i 0)
section CS
variable {K9 : Int32 → OBk → (Nat → Int32) → (Nat → Int32) → Prop} {o : OBk} {d w : Nat → Int32}
theorem shape_181 {i s wd : Nat} (hi : i < 6) (hs : s < 4) {v3 v5 est : Int32} {v4 : Int32} (he : (jrem (v4 / 6) 1999) - 999 = est) {va : Nat → Int64} {se : Nat → Nat → Int64} {fa : Nat → Int32} {q : Int32} (hq : varOf (nI s) (nI wd) = q)
    (hK : K9 1 (mkO (oc o) (shI o i est (nI s) (nI wd)) (ocv o) (oln o) (ocd o) va se (ods o) fa (otn o) (ox o)) d w) : BL_step_181 K9 v3 v4 v5 (nI i) (nI s) (nI wd) (varOf (nI s) (nI wd)) (varOf (nI s) (nI wd)) q (mkO (oc o) (shI o i est (nI s) (nI wd)) (ocv o) (oln o) (ocd o) va se (ods o) fa (otn o) (ox o)) d w := by
  unfold BL_step_181
  rw [he]
  have n4 : ¬ nI s = 4 := fun y => by
    have := (nI_eq (b := 4) (by omega) (by omega)).mp y
    omega
  refine if_t hq (cin hi (by decide) (inp_0 _ _ _ _ _ _) (if_t ?_ (cin hi (by decide) (inp_1 _ _ _ _ _ _) (if_t ?_ (cin hi (by decide) (inp_2 _ _ _ _ _ _) (if_t ?_ (cin hi (by decide) (inp_3 _ _ _ _ _ _) (if_t ?_ (cin hi (by decide) (inp_4 _ _ _ _ _ _) (if_t ?_ ⟨rfl, hK⟩))))))))))
  · exact pk_us
  · exact pk_us
  · exact pk_us
  · show degOf (upd (oI o 4) i 0) i = 0
    unfold degOf
    rw [pk_us, if_pos (by decide)]
  · show (if upd (oI o 2) i (nI s) i = 4 then upd (oI o 4) i 0 i else upd (oI o 3) i (nI wd) i) = nI wd
    rw [pk_us, if_neg n4, pk_us]
theorem shape_ok (hI : IV o d w) {a b i : Nat} (ha : a < 2 ^ 31) (hb : b < 2 ^ 31) (hi : i < 6) {v3 : Int32} (hK : ∀ o' d' w', IV o' d' w' → K9 1 o' d' w') : BL_step_88 K9 v3 (nI a) (nI b) (nI i) o d w := by
  obtain ⟨hO, h0, h1, h2, hw, hl⟩ := hI
  have e4 : jrem (nI b) 4 = nI (b % 4) := jr_n hb 4 (by omega) (by omega)
  have e100 : jrem (nI b / 4) 100 = nI (b / 4 % 100) := by
    rw [show nI b / 4 = nI (b / 4) from dv_n hb 4 (by omega) (by omega)]
    exact jr_n (by omega) 100 (by omega) (by omega)
  have ee : (jrem (nI a / 6) 1999) - 999 = nI (a / 6 % 1999) - nI 999 := by
    rw [show nI a / 6 = nI (a / 6) from dv_n ha 6 (by omega) (by omega), show jrem (nI (a / 6)) 1999 = nI (a / 6 % 1999) from jr_n (by omega) 1999 (by omega) (by omega)]
    rfl
  have hm := Nat.mod_lt (a / 6) (show 0 < 1999 by omega)
  obtain ⟨r1, r2⟩ := sub_rg (a := a / 6 % 1999) (b := 999) (lo := -999) (hi := 999) (by omega) (by omega) (by rw [show (-999 : Int32).toInt = -999 by decide]; omega) (by rw [show (999 : Int32).toInt = 999 by decide]; omega)
  have main : ∀ s wd : Nat, s < 4 → wd < 100 → (s = 0 → wd = 0) → BL_step_110 K9 v3 (nI a) (nI b) (nI i) (nI s) (nI wd) o d w := fun s wd hs hwd h00 => by
    unfold BL_step_110
    rw [ee]
    have hcl := clamp_n (show i < 2 ^ 31 by omega)
    have hbad : ¬ shapeBad (nI (a / 6 % 1999) - nI 999) (nI s) (nI wd) := fun y => by
      rcases y with y | y | y | y | y | y
      · exact absurd r1 (Int32.not_le.mpr y)
      · exact absurd r2 (Int32.not_le.mpr y)
      · exact nI_pos (by omega) y
      · have := (nI_ltI (a := 3) (by omega) (by omega)).mp y
        omega
      · exact nI_pos (by omega) y
      · by_cases z : s = 0
        · rw [if_pos (show nI s = 0 by rw [z]; rfl)] at y
          have := (nI_ltI (a := 0) (by omega) (by omega)).mp y
          have := h00 z
          omega
        · rw [if_neg (show ¬ nI s = 0 from fun q => z ((nI_eq (b := 0) (by omega) (by omega)).mp q))] at y
          have := (nI_ltI (a := 99) (by omega) (by omega)).mp y
          omega
    refine ⟨vin6 hi, ⟨i, hi, rfl, hbad, fun va se fa hO' => ?_⟩⟩
    rw [hcl]
    have kk : K9 1 (mkO (oc o) (shI o i (nI (a / 6 % 1999) - nI 999) (nI s) (nI wd)) (ocv o) (oln o) (ocd o) va se (ods o) fa (otn o) (ox o)) d (upd w i 0) := hK _ _ _ ⟨hO', h0, h1, h2, fun j hj => by
      show upd w i 0 j = upd (oI o 4) i 0 j
      rw [upd_at, upd_at]
      by_cases e : j = i
      · rw [if_pos e, if_pos e]
      · rw [if_neg e, if_neg e]
        exact hw j hj, hl⟩
    have go : ∀ q, varOf (nI s) (nI wd) = q → BL_step_181 K9 v3 (nI a) (nI b) (nI i) (nI s) (nI wd) (varOf (nI s) (nI wd)) (varOf (nI s) (nI wd)) q (mkO (oc o) (shI o i (nI (a / 6 % 1999) - nI 999) (nI s) (nI wd)) (ocv o) (oln o) (ocd o) va se (ods o) fa (otn o) (ox o)) d (upd w i 0) := fun q hq => shape_181 hi hs ee hq kk
    rcases (show s = 0 ∨ s = 1 ∨ s = 2 ∨ s = 3 by omega) with rfl | rfl | rfl | rfl
    · exact if_t rfl (go 0 rfl)
    · refine if_f (by decide) (if_t rfl ?_)
      unfold BL_step_180
      exact ⟨by decide, go _ rfl⟩
    · refine if_f (by decide) (if_f (by decide) (if_t rfl ?_))
      unfold BL_step_180
      exact ⟨by decide, go _ rfl⟩
    · refine if_f (by decide) (if_f (by decide) (if_f (by decide) ?_))
      unfold BL_step_180
      exact ⟨by decide, go _ rfl⟩
  unfold BL_step_88
  rw [e4, e100]
  have l4 := Nat.mod_lt b (show 0 < 4 by omega)
  have l100 := Nat.mod_lt (b / 4) (show 0 < 100 by omega)
  by_cases z : b % 4 = 0
  · rw [z]
    exact if_t rfl (main 0 0 (by omega) (by omega) (fun _ => rfl))
  · exact if_f (fun q => z ((nI_eq (b := 0) (by omega) (by omega)).mp q)) (main _ _ l4 l100 (fun q => absurd q z))
theorem read_ok (hI : IV o d w) {b i : Nat} (hb : b < 2 ^ 31) (hi : i < 6) {v3 v4 : Int32} (hK : ∀ o' d' w', IV o' d' w' → K9 1 o' d' w') : BL_step_259 K9 v3 v4 (nI b) (nI i) o d w := by
  have hI0 := hI
  obtain ⟨hO, h0, h1, h2, hw, hl⟩ := hI
  have ee : (jrem (nI b) 1999) - 999 = nI (b % 1999) - nI 999 := by
    rw [show jrem (nI b) 1999 = nI (b % 1999) from jr_n hb 1999 (by omega) (by omega)]
    rfl
  have hm := Nat.mod_lt b (show 0 < 1999 by omega)
  have sm : smallR (nI (b % 1999) - nI 999) := by
    unfold smallR
    rw [pk_sub_toInt (by omega) (by omega)]
    omega
  have hcl := clamp_n (show i < 2 ^ 31 by omega)
  obtain ⟨c, hc8, hC⟩ : ∃ c, c ≤ 8 ∧ oI o 4 i = nI c := by
    rcases hO.2.1 i hi with ⟨-, c, -, h, e⟩ | ⟨s, wd, -, -, -, e, -⟩
    · exact ⟨c, h, e⟩
    · exact ⟨0, by omega, e⟩
  have hwc : w i = nI c := (hw i hi).trans hC
  unfold BL_step_259
  rw [ee, hcl]
  refine ⟨i, c, hi, rfl, sm, hc8, hC, fun e => ?_, fun hc q a va se fa ha h00 hO' => ?_⟩
  · refine if_t rfl ⟨vin6 hi, if_t ?_ ⟨rfl, hK _ _ _ hI0⟩⟩
    rw [hwc, e]
    rfl
  · have an2 : ¬ a = -2 := fun y => by
      rw [y] at ha
      exact absurd ha (by decide)
    have an0 : ¬ a < 0 := Int32.not_lt.mpr ha
    have ew : upd w i (w i + 1) i = nI (c + 1) := by rw [pk_us, hwc, nI_1]
    have kk : K9 1 (mkO (oc o) (rdI o i c q a) (ocv o) (oln o) (ocd o) va se (ods o) fa (otn o) (ox o)) d (upd w i (w i + 1)) := hK _ _ _ ⟨hO', h0, h1, h2, fun j hj => by
      show upd w i (w i + 1) j = upd (oI o 4) i (nI (c + 1)) j
      rw [upd_at, upd_at]
      by_cases e : j = i
      · rw [if_pos e, if_pos e, hwc, nI_1]
      · rw [if_neg e, if_neg e]
        exact hw j hj, hl⟩
    refine if_f an2 ⟨vin6 hi, ⟨vin6 hi, if_f an0 (cin hi (by decide) (inp_1 _ _ _ _ _ _) (if_t ?_ (cin hi (by decide) (inp_2 _ _ _ _ _ _) (if_t ?_ (cin hi (by decide) (inp_3 _ _ _ _ _ _) ⟨vin6 hi, if_t ?_ (cin hi (by decide) (inp_4 _ _ _ _ _ _) ⟨vin6 hi, if_t ?_ ⟨vin6 hi, ?_⟩⟩)⟩)))))⟩⟩
    · exact pk_us
    · exact pk_us
    · show degOf (upd (oI o 4) i (nI (c + 1))) i = upd w i (w i + 1) i - 1
      rw [ew]
      unfold degOf
      rw [pk_us]
      by_cases z : c = 0
      · rw [z, if_pos (by decide)]
        rfl
      · rw [if_neg (fun y => by have := (nI_leI (b := 1) (by omega) (by omega)).mp y; omega)]
    · show (if upd (oI o 2) i 4 i = 4 then upd (oI o 4) i (nI (c + 1)) i else oI o 3 i) = upd w i (w i + 1) i
      rw [ew, pk_us, if_pos rfl, pk_us]
    · by_cases z : c = 0
      · obtain ⟨q1, q2⟩ := h00 z
        refine if_f (fun y => ?_) (cin hi (by decide) (inp_0 _ _ _ _ _ _) (if_t ?_ (if_t q2 ⟨rfl, kk⟩)))
        · rw [ew, z] at y
          exact absurd y (by decide)
        · show upd (oI o 0) i q i = _
          rw [pk_us]
          exact q1
      · refine if_t ?_ ⟨rfl, kk⟩
        rw [ew]
        exact (nI_ltI (a := 1) (by omega) (by omega)).mpr (by omega)
theorem unit_l {v3 v4 v5 : Int32} {E : Int32 → Int32 → OBk → (Nat → Int32) → (Nat → Int32) → Prop} {v12 : Int32} (hd : d 0 = nI (oc o)) (hc : oc o ≤ 8) (hE : E v12 (nI (cntD (ods o) (oc o))) o d w) : ∀ (f k : Nat), k ≤ oc o → oc o - k < f → LL_step_435 K9 v3 v4 v5 E f v12 (nI (cntD (ods o) k)) (nI k) o d w
  | 0, k, _, q => absurd q (Nat.not_lt_zero _)
  | f + 1, k, hk, q => by
    rw [LL_step_435, cl0, hd]
    by_cases z : oc o ≤ k
    · have : k = oc o := by omega
      subst this
      exact ⟨vi0, if_t (Int32.le_refl _) hE⟩
    · have ih := unit_l (v3 := v3) (v4 := v4) (v5 := v5) hd hc hE f (k + 1) (by omega) (by omega)
      refine ⟨vi0, if_f (fun y => z ((nI_leI (by omega) (by omega)).mp y)) ⟨k, by omega, rfl, ?_⟩⟩
      by_cases e : ods o k = -1
      · refine if_t e ?_
        unfold BL_step_460
        rw [Int32.add_zero, nI_1]
        rw [show cntD (ods o) (k + 1) = cntD (ods o) k from if_pos e] at ih
        exact ih
      · refine if_f e ?_
        unfold BL_step_460
        rw [nI_1, nI_1]
        rw [show cntD (ods o) (k + 1) = cntD (ods o) k + 1 from if_neg e] at ih
        exact ih
theorem table_663 (hI : IV o d w) {v3 v4 v5 : Int32} (hK : ∀ o' d' w', IV o' d' w' → K9 1 o' d' w') : BL_step_663 K9 v3 v4 v5 (-2) 1 o d w := by
  obtain ⟨hO, h0, h1, h2, hw, hl⟩ := hI
  unfold BL_step_663
  rw [cl1]
  refine if_t rfl ⟨vi1, ⟨vi1, ⟨rfl, hK _ _ _ ⟨hO, ?_, ?_, ?_, hw, hl⟩⟩⟩⟩
  · exact h0
  · exact h1
  · exact h2
theorem table_ok (hI : IV o d w) {s : Nat} (hs1 : 1 ≤ s) (hs2 : s ≤ 30) {f : Int32} (hf : f = -1 ∨ ∃ n, n < 1000 ∧ f = nI n) {v3 v4 v5 : Int32} (hK : ∀ o' d' w', IV o' d' w' → K9 1 o' d' w') : BL_step_598 K9 v3 v4 v5 (nI s) f o d w := by
  have hI0 := hI
  obtain ⟨hO, h0, h1, h2, hw, hl⟩ := hI
  have ht := hO.2.2.2.1
  unfold BL_step_598
  rw [cl1, h1]
  refine ⟨fun y => ?_, fun t fa t1 t2 hO' => ?_, fun e => ?_⟩
  · rcases y with y | y | y | y
    · have := (nI_ltI (b := 1) (by omega) (by omega)).mp y
      omega
    · have := (nI_ltI (a := 9999) (by omega) (by omega)).mp y
      omega
    · rcases hf with e | ⟨n, hn, e⟩
      · rw [e] at y
        exact absurd y (by decide)
      · rw [e, lt_i, nI_toInt (by omega)] at y
        have z : (-1 : Int32).toInt = -1 := by decide
        omega
    · rcases hf with e | ⟨n, hn, e⟩
      · rw [e] at y
        exact absurd y (by decide)
      · rw [e] at y
        have := (nI_ltI (a := 999) (by omega) (by omega)).mp y
        omega
  · have ht' : t ≤ 12 := hO'.2.2.2.1
    have n2 : ¬ nI t = -2 := fun y => by
      have := congrArg Int32.toInt y
      rw [nI_toInt (by omega), show (-2 : Int32).toInt = -2 by decide] at this
      omega
    have z1 : (1 : Int32).toInt = 1 := by decide
    refine if_f n2 (if_f (nI_pos (by omega)) (if_f (fun y => ?_) ⟨vi1, if_f (fun y => ?_) ⟨vi1, if_f (fun y => ?_) ?_⟩⟩))
    · have := (nI_ltI (a := 12) (by omega) (by omega)).mp y
      omega
    · rw [lt_i, pk_sub_toInt (by omega) (by omega)] at y
      omega
    · rw [lt_i, pk_sub_toInt (by omega) (by omega)] at y
      omega
    · unfold BL_step_663
      rw [cl1]
      refine if_f n2 ⟨vi1, ⟨rfl, hK _ _ _ ⟨hO', ?_, ?_, ?_, hw, hl⟩⟩⟩
      · exact h0
      · exact pk_us
      · exact h2
  · refine if_t rfl ⟨vi1, if_t ?_ (table_663 hI0 hK)⟩
    rw [e]
    rfl
theorem seed_717 {v3 v4 : Int32} {y x : Nat} {va : Nat → Int64} (hI : IV o d w) (hO' : OFo (mkO (oc o) (oI o) (ocv o) (oln o) (ocd o) (ova o) (ose o) (ods o) (ofa o) (otn o) y)) (hx : x ≤ 65536) {v5 : Int32} (e5 : jrem v5 65537 = nI y) (hK : ∀ o' d' w', IV o' d' w' → K9 1 o' d' w') : BL_step_712 K9 v3 v4 v5 (nI x) (mkO (oc o) (oI o) (ocv o) (oln o) (ocd o) (ova o) (ose o) (ods o) (ofa o) (otn o) y) d w := by
  obtain ⟨hO, h0, h1, h2, hw, hl⟩ := hI
  unfold BL_step_712 BL_step_717
  rw [cl2, e5]
  refine ⟨vi2, if_f n10 (if_f (nI_pos (by omega)) (if_f (fun q => ?_) ⟨rfl, hK _ _ _ ⟨hO', ?_, ?_, Or.inr ?_, hw, hl⟩⟩))⟩
  · have := (nI_leI (a := 65537) (by omega) (by omega)).mp q
    omega
  · exact h0
  · exact h1
  · exact pk_us
theorem draw_800 {v3 v4 : Int32} {h y b : Nat} (hI : IV o d w) (hb : b < 2 ^ 31) (hO' : OFo (mkO (oc o) (oI o) (ocv o) (oln o) (ocd o) (ova o) (ose o) (ods o) (ofa o) (otn o) y)) (hh : h ≤ 1 + b % 100) {s : Int32} (hs : s = 0 → h = 0) (hK : ∀ o' d' w', IV o' d' w' → K9 1 o' d' w') : BL_step_800 K9 v3 v4 (nI b) (nI h) s (mkO (oc o) (oI o) (ocv o) (oln o) (ocd o) (ova o) (ose o) (ods o) (ofa o) (otn o) y) d w := by
  obtain ⟨hO, h0, h1, h2, hw, hl⟩ := hI
  have e1 : (1 : Int32) + (jrem (nI b) 100) = nI (1 + b % 100) := by
    rw [show jrem (nI b) 100 = nI (b % 100) from jr_n hb 100 (by omega) (by omega), show (1 : Int32) = nI 1 from rfl, nI_add]
  have l := Nat.mod_lt b (show 0 < 100 by omega)
  have kk : K9 1 (mkO (oc o) (oI o) (ocv o) (oln o) (ocd o) (ova o) (ose o) (ods o) (ofa o) (otn o) y) (upd d 2 (-1)) w := hK _ _ _ ⟨hO', h0, h1, Or.inl pk_us, hw, hl⟩
  unfold BL_step_800
  rw [cl2, e1]
  refine ⟨vi2, if_f (nI_pos (by omega)) (if_f (fun q => ?_) ?_)⟩
  · have := (nI_ltI (by omega) (by omega)).mp q
    omega
  · by_cases z : s = 0
    · exact if_t z (if_t (by rw [hs z]; rfl) ⟨rfl, kk⟩)
    · exact if_f z ⟨rfl, kk⟩
end CS
