/-! ===== the budget as a whole ===== -/
theorem conTo_0 (w : Nat → Int64) (va : Nat → Int32) (C : Nat → Int64) : conTo w va C 0 = C := funext fun k => if_neg (Nat.not_lt_zero k)
theorem conTo_lt {w : Nat → Int64} {va : Nat → Int32} {C : Nat → Int64} {i : Nat} (h : i < 6) : conTo w va C 6 i = partOf w va i := if_pos h
theorem c_reckon {sz rt : Nat} (hsz : sz ≤ 60) {K L R : Nat → Int32} (h : ∀ n, n < sz → rowOK n (K n) (L n) (R n)) (hr : rt < sz) (u va C : Nat → Int32) (cv : Nat → Nat → Int32) (w0 P0 : Nat → Int64) (V0 D0 : Int64) (F G : Nat → Int64) :
    ∃ A2 w2 : Nat → Int64, fX0_reckon w0 P0 V0 D0 K L R F G (nI sz) (nI rt) u va C cv = some (w2, conTo w2 va P0 6, varTo w2 va cv 6, degSum C (partOf w2 va) (varTo w2 va cv 6) 6, valsTo K L R u sz F, A2) ∧ ∀ (S : Nat → Int64) (i : Nat), i < 6 → w2 i = slopesTo K L R (nI i) (valsTo K L R u sz F) sz S rt := by
  obtain ⟨A2, w2, e, hw⟩ := c_slopesBackward hsz h hr u F G w0
  refine ⟨A2, w2, ?_, hw⟩
  unfold fX0_reckon
  rw [e, bnd3_s]
  have l := c_var_loop K L R (nI sz) (nI rt) u va C cv (fun Bslopes Bcontributions Bvariance BdegreesSum Fvalues Fslopes => bnd1 (fX0_reckonDegreesSum Bcontributions Bvariance BdegreesSum C) (fun degreesSum_13 => some (Bslopes, Bcontributions, Bvariance, degreesSum_13, Fvalues, Fslopes))) w2 P0 D0 (valsTo K L R u sz F) A2 1000 0 (by omega) (by omega)
  rw [conTo_0] at l
  refine Eq.trans l ?_
  rw [c_reckonDegreesSum, bnd1_s, degSum_congr (Q := partOf w2 va) (fun i hi => conTo_lt hi)]
theorem m_slopes_loop {m sz rt : Nat} (hm : m < 9) (hsz : sz ≤ 60) (hrt : rt < sz) {K L R MK MO MT est form root drawn : Nat → Int32} (h : RowsRel sz (64 * m) K L R MK MO MT) (hf : form m = nI sz) (hr : root m = nI rt) (V : Nat → Int64) (E : (Nat → Int64) → (Nat → Int64) → (Nat → Int64) → Option ((Nat → Int64) × (Nat → Int64) × (Nat → Int64))) :
    ∀ (f i : Nat) (S W : Nat → Int64), i ≤ 6 → 6 - i < f → (∀ (S' : Nat → Int64) (k : Nat), k < i → W k = slopesTo K L R (nI k) V sz S' rt) →
      ∃ S2 W2 : Nat → Int64, LX7_laysSlopes_9 est form root MK MO MT drawn (nI m) E f (nI i) V S W = E V S2 W2 ∧ ∀ (S' : Nat → Int64) (k : Nat), k < 6 → W2 k = slopesTo K L R (nI k) V sz S' rt
  | 0, i, _, _, _, q, _ => absurd q (Nat.not_lt_zero _)
  | f + 1, i, S, W, hi, q, hW => by
    rw [LX7_laysSlopes_9]
    by_cases hc : 6 ≤ i
    · have : i = 6 := by omega
      subst this
      rw [if_pos (by decide)]
      exact ⟨S, W, rfl, hW⟩
    · have hq : ¬ (6 : Int32) ≤ nI i := fun q => hc ((nI_leI (a := 6) (by omega) (by omega)).mp q)
      rw [if_neg hq, m_slopeOf hm hsz (by omega) h hf hr, bnd2_s, gi_n (show i < 6 by omega) (by omega), nI_1, clamp_n (by omega)]
      refine m_slopes_loop hm hsz hrt h hf hr V E f (i + 1) _ _ (by omega) (by omega) (fun S' k hk => ?_)
      rw [updL_at]
      by_cases e : k = i
      · rw [if_pos e, e]
        exact slopesTo_agree hsz (fun n hn => (h n hn).1) (fun _ _ => rfl) rt hrt
      · rw [if_neg e]
        exact hW S' k (by omega)
theorem m_laysSlopes {m sz rt : Nat} (hm : m < 9) (hsz : sz ≤ 60) (hrt : rt < sz) {K L R MK MO MT est form root drawn : Nat → Int32} (h : RowsRel sz (64 * m) K L R MK MO MT) (hf : form m = nI sz) (hr : root m = nI rt) (V S W : Nat → Int64) :
    ∃ S2 W2 : Nat → Int64, fX7_laysSlopes (nI m) est form root MK MO MT V S drawn W = some (valsTo K L R est sz V, S2, W2) ∧ ∀ (S' : Nat → Int64) (k : Nat), k < 6 → W2 k = slopesTo K L R (nI k) (valsTo K L R est sz V) sz S' rt := by
  unfold fX7_laysSlopes
  rw [m_values hm hsz (by omega) h hf hr (u := est) (v2 := 0) (if_pos rfl).symm, bnd2_s]
  exact m_slopes_loop hm hsz hrt h hf hr _ _ 1000 0 S W (by omega) (by omega) (fun _ k hk => absurd hk (Nat.not_lt_zero _))
/-! ===== the doubt ===== -/
theorem shl_1 : ∀ k, k < 32 → jlshl 1 (nI k) = lN (2 ^ k) := by decide +kernel
theorem sq_small {r v : Nat} (h : r * r ≤ v) (hv : v < 2 ^ 63) : r ≤ 3037000499 := by
  by_cases q : r ≤ 3037000499
  · exact q
  · have := Nat.mul_le_mul (show 3037000500 ≤ r by omega) (show 3037000500 ≤ r by omega)
    omega
theorem root_loop {v : Nat} (hv : v < 2 ^ 63) (E1 E2 : Int64 → Option Int64) : ∀ (f n r : Nat), n ≤ 32 → n < f → r * r ≤ v →
    ∃ q, q * q ≤ v ∧ LX0_doubt_18 (lN v) E1 f (lN r) (hd n) = E1 (lN q) ∧ LX7_root_16 (lN v) E2 f (lN r) (hd n) = E2 (lN q)
  | 0, n, r, _, q, _ => absurd q (Nat.not_lt_zero _)
  | f + 1, 0, r, _, _, hr => by
    refine ⟨r, hr, ?_, ?_⟩
    · rw [LX0_doubt_18, if_pos (by decide)]
    · rw [LX7_root_16, if_pos (by decide)]
  | f + 1, b + 1, r, hn, hf, hr => by
    have eb : hd (b + 1) = nI b := pk_m1 b
    have hb : 2 ^ b ≤ 2 ^ 31 := Nat.pow_le_pow_right (by decide) (by omega)
    have h0 : 0 < 2 ^ b := Nat.two_pow_pos b
    have hs := sq_small hr hv
    have ht : r + 2 ^ b < 2 ^ 33 := by omega
    have e1 : lN r + jlshl 1 (nI b) = lN (r + 2 ^ b) := by rw [shl_1 b (by omega), lN_add]
    have en : nI b + (-1) = hd b := rfl
    have dv : lN v / lN (r + 2 ^ b) = lN (v / (r + 2 ^ b)) := pk_lDiv hv (by omega) (by omega)
    have vd : v / (r + 2 ^ b) < 2 ^ 63 := Nat.lt_of_le_of_lt (Nat.div_le_self _ _) hv
    have key : r + 2 ^ b ≤ v / (r + 2 ^ b) ↔ (r + 2 ^ b) * (r + 2 ^ b) ≤ v := Nat.le_div_iff_mul_le (by omega)
    have nz : ¬ lN (r + 2 ^ b) = 0 := fun q => by
      have := (pk_lEQ (a := r + 2 ^ b) (b := 0) (by omega) (by omega)).mp q
      omega
    rw [LX0_doubt_18, LX7_root_16, eb, if_neg (nI_pos (by omega)), if_neg (nI_pos (by omega))]
    simp only [e1, en, dv, gzL_ok nz]
    by_cases hk : (r + 2 ^ b) * (r + 2 ^ b) ≤ v
    · have hs2 := sq_small hk hv
      obtain ⟨q, q1, q2, q3⟩ := root_loop hv E1 E2 f b (r + 2 ^ b) (by omega) (by omega) hk
      refine ⟨q, q1, ?_, ?_⟩
      · rw [if_neg (fun y => ?_), if_neg (fun y => ?_)]
        · exact q2
        · rw [lg_cmp_gt, lN_mul, pk_lLT hv (by omega)] at y
          omega
        · rw [lg_cmp_gt] at y
          have := (pk_lLT (a := 3037000499) (b := r + 2 ^ b) (by omega) (by omega)).mp y
          omega
      · rw [if_neg (fun y => ?_)]
        · exact q3
        · rw [lg_cmp_gt, pk_lLT vd (by omega)] at y
          have := key.mpr hk
          omega
    · obtain ⟨q, q1, q2, q3⟩ := root_loop hv E1 E2 f b r (by omega) (by omega) hr
      refine ⟨q, q1, ?_, ?_⟩
      · by_cases hg : r + 2 ^ b ≤ 3037000499
        · have := Nat.mul_le_mul hg hg
          rw [if_neg (fun y => ?_), if_pos ?_]
          · exact q2
          · rw [lg_cmp_gt, lN_mul, pk_lLT hv (by omega)]
            omega
          · rw [lg_cmp_gt] at y
            have := (pk_lLT (a := 3037000499) (b := r + 2 ^ b) (by omega) (by omega)).mp y
            omega
        · rw [if_pos ?_]
          · exact q2
          · rw [lg_cmp_gt]
            exact (pk_lLT (a := 3037000499) (b := r + 2 ^ b) (by omega) (by omega)).mpr (by omega)
      · rw [if_pos ?_]
        · exact q3
        · rw [lg_cmp_gt, pk_lLT vd (by omega)]
          have := mt key.mp hk
          omega
theorem doubt_same (V : Int64) : ∃ r, fX0_doubt V = some r ∧ fX7_root V = some r := by
  unfold fX0_doubt fX7_root
  by_cases h : V < 0
  · have : ¬ 0 ≤ lg_cmp V 0 := by
      rw [lg_cmp_ge]
      exact lg_lt_not_le h
    rw [if_neg this, if_neg this]
    exact ⟨_, rfl, rfl⟩
  · have : 0 ≤ lg_cmp V 0 := by
      rw [lg_cmp_ge]
      rw [Int64.lt_iff_toInt_lt] at h
      rw [Int64.le_iff_toInt_le]
      omega
    rw [if_pos this, if_pos this]
    obtain ⟨v, hv, e⟩ := pk_lOf h
    subst e
    obtain ⟨q, -, q2, q3⟩ := root_loop hv (fun v1 => some v1) (fun v2 => some v2) 1000 32 0 (by omega) (by omega) (by omega)
    exact ⟨_, q2, q3⟩
/-! ===== degrees and their factor ===== -/
def degAns (s : Int64) : Int64 := if s = 0 then -1 else 10000 / s
theorem c_degrees (s : Int64) : fX0_degrees s = some (degAns s) := by
  unfold fX0_degrees degAns
  by_cases h : s = 0
  · rw [if_pos ((lg_cmp_eq s 0).mpr h), if_pos h]
  · rw [if_neg (fun q => h ((lg_cmp_eq s 0).mp q)), if_neg h, gzL_ok h]
theorem m_degrees {S C : Nat → Int32} (h : sortCnt S C) (va : Nat → Int32) (w : Nat → Int64) (V : Int64) : fX7_degrees V S C va w = some (degAns (degSum C (partOf w va) V 6)) := by
  unfold fX7_degrees
  rw [m_degreesSum h, bnd1_s]
  exact c_degrees _
theorem m_hasNone {S C : Nat → Int32} (h : sortCnt S C) (va : Nat → Int32) (w : Nat → Int64) (V : Int64) : fX7_hasNone V S C va w = some (if degSum C (partOf w va) V 6 = 0 then 1 else 0) := by
  unfold fX7_hasNone
  rw [m_degreesSum h, bnd1_s]
  by_cases h : degSum C (partOf w va) V 6 = 0
  · rw [if_pos ((lg_cmp_eq _ 0).mpr h), if_pos h]
  · rw [if_neg (fun q => h ((lg_cmp_eq _ 0).mp q)), if_neg h]
/-- the two tables -/
def TabRel (n : Nat) (D F MF MA : Nat → Int32) : Prop := n ≤ 12 ∧ (∀ k, k < n → MF k = D k ∧ MA k = F k ∧ 0 < D k ∧ D k ≤ 9999) ∧ ∀ j k, j < n → k < n → D j = D k → j = k
theorem fac_loop {n : Nat} {D F MF MA : Nat → Int32} (h : TabRel n D F MF MA) {a most : Int64} {b : Int32} (hab : (b = 0 ∧ most = a) ∨ (b = 1 ∧ most = 9999)) :
    ∀ (f j : Nat) (g fc fo : Int32), j ≤ n → n - j < f → ((g = 0 ∧ fc = -1 ∧ fo = -1) ∨ ∃ k, k < n ∧ g = D k ∧ fc = F k ∧ fo = nI k) →
      ∃ r, LX2_factorUpTo_8 D F (nI n) most (fun v4 => some v4) f g fc (nI j) = some r ∧ LX7_factorFor_6 MF MA (nI n) a b (fun v4 => if v4 = -1 then some (-1) else gi v4 12 (some (MA v4.toNatClampNeg))) f fo (nI j) = some r
  | 0, j, _, _, _, _, q, _ => absurd q (Nat.not_lt_zero _)
  | f + 1, j, g, fc, fo, hj, q, hI => by
    have h12 := h.1
    rw [LX2_factorUpTo_8, LX7_factorFor_6]
    by_cases hc : n ≤ j
    · have hq : nI n ≤ nI j := (nI_leI (by omega) (by omega)).mpr hc
      rw [if_pos hq, if_pos hq]
      refine ⟨fc, rfl, ?_⟩
      rcases hI with ⟨-, h2, h3⟩ | ⟨k, hk, -, h2, h3⟩
      · show (if fo = -1 then _ else _) = _
        rw [if_pos h3, h2]
      · have : ¬ nI k = -1 := nI_neM1 (by omega)
        show (if fo = -1 then _ else _) = _
        rw [h3, if_neg this, gi_n (show k < 12 by omega) (by omega), clamp_n (by omega), (h.2.1 k hk).2.1, h2]
    · have hq : ¬ nI n ≤ nI j := fun q => hc ((nI_leI (by omega) (by omega)).mp q)
      have hjn : j < n := by omega
      obtain ⟨e1, e2, e3, e4⟩ := h.2.1 j hjn
      rw [if_neg hq, if_neg hq]
      simp only [gi_n (show j < 12 by omega) (show 12 < 2 ^ 31 by omega), clamp_n (show j < 2 ^ 31 by omega), nI_1]
      have take := fac_loop h hab f (j + 1) (D j) (F j) (nI j) (by omega) (by omega) (Or.inr ⟨j, hjn, rfl, rfl, rfl⟩)
      have skip := fac_loop h hab f (j + 1) g fc fo (by omega) (by omega) hI
      -- the reference's second step
      have s32 : ∀ K : Int32 → Int32 → Option Int32, BX7_factorFor_32 MF MA (nI n) a b K (fun v4 => if v4 = -1 then some (-1) else gi v4 12 (some (MA v4.toNatClampNeg))) fo (nI j) = if D j ≤ g then K fo (nI (j + 1)) else K (nI j) (nI (j + 1)) := fun K => by
        unfold BX7_factorFor_32
        rcases hI with ⟨h1, -, h3⟩ | ⟨k, hk, h1, -, h3⟩
        · have : ¬ D j ≤ g := by
            rw [h1]
            intro y
            rw [lt_i] at e3
            rw [le_i] at y
            omega
          rw [if_pos h3, if_neg this]
          unfold BX7_factorFor_55 BX7_factorFor_60
          rw [if_neg (by decide), nI_1]
        · have h9 : ¬ nI k = -1 := nI_neM1 (by omega)
          rw [h3, if_neg h9, gi_n (show j < 12 by omega) (by omega), gi_n (show k < 12 by omega) (by omega), clamp_n (by omega), clamp_n (by omega), e1, (h.2.1 k hk).1, h1]
          unfold BX7_factorFor_55 BX7_factorFor_59 BX7_factorFor_60
          rw [nI_1]
          by_cases y : D j ≤ D k
          · rw [if_pos y, if_pos y, if_pos rfl]
          · rw [if_neg y, if_neg y, if_neg (by decide)]
      rcases hab with ⟨hb, hm⟩ | ⟨hb, hm⟩
      · simp only [s32]
        rw [if_pos hb, e1, hm]
        subst hm
        by_cases c1 : 0 < lg_cmp (D j).toInt64 most
        · rw [if_pos c1, if_pos c1]
          unfold BX7_factorFor_59 BX7_factorFor_60
          rw [if_pos rfl, nI_1]
          exact skip
        · rw [if_neg c1, if_neg c1]
          by_cases c2 : D j ≤ g
          · rw [if_pos c2, if_pos c2]
            exact skip
          · rw [if_neg c2, if_neg c2]
            exact take
      · have c1 : ¬ 0 < lg_cmp (D j).toInt64 most := by
          rw [lg_cmp_gt, hm, Int64.lt_iff_toInt_lt, Int32.toInt_toInt64]
          rw [le_i] at e4
          have z : (9999 : Int64).toInt = 9999 := by decide
          have z2 : (9999 : Int32).toInt = 9999 := by decide
          omega
        simp only [s32]
        rw [if_neg c1, if_neg (show ¬ b = 0 by rw [hb]; decide)]
        by_cases c2 : D j ≤ g
        · rw [if_pos c2, if_pos c2]
          exact skip
        · rw [if_neg c2, if_neg c2]
          exact take
theorem factor_same {n : Nat} {D F MF MA : Nat → Int32} (h : TabRel n D F MF MA) (s : Int64) :
    ∃ r, fX0_factor s D F (nI n) = some r ∧ fX7_factorFor (degAns s) (if s = 0 then 1 else 0) MF MA (nI n) = some r := by
  unfold fX0_factor
  by_cases e : s = 0
  · obtain ⟨r, r1, r2⟩ := fac_loop h (a := degAns s) (b := 1) (Or.inr ⟨rfl, rfl⟩) 1000 0 0 (-1) (-1) (by omega) (by have := h.1; omega) (Or.inl ⟨rfl, rfl, rfl⟩)
    refine ⟨r, ?_, ?_⟩
    · rw [if_pos ((lg_cmp_eq s 0).mpr e)]
      have r1 : fX2_factorUpTo 9999 D F (nI n) = some r := r1
      rw [r1, bnd1_s]
    · rw [if_pos e]
      exact r2
  · obtain ⟨r, r1, r2⟩ := fac_loop h (a := degAns s) (b := 0) (Or.inl ⟨rfl, rfl⟩) 1000 0 0 (-1) (-1) (by omega) (by have := h.1; omega) (Or.inl ⟨rfl, rfl, rfl⟩)
    refine ⟨r, ?_, ?_⟩
    · rw [if_neg (fun q => e ((lg_cmp_eq s 0).mp q)), c_degrees, bnd1_s]
      have r1 : fX2_factorUpTo (degAns s) D F (nI n) = some r := r1
      rw [r1, bnd1_s]
    · rw [if_neg e]
      exact r2
theorem stated_same {n : Nat} {D F MF MA : Nat → Int32} (h : TabRel n D F MF MA) {S C : Nat → Int32} (hC : sortCnt S C) (va : Nat → Int32) (w : Nat → Int64) (V : Int64) :
    ∃ r, fX0_statedDoubt V (degSum C (partOf w va) V 6) D F (nI n) = some r ∧ fX7_statedOf V S C va w MF MA (nI n) = some r := by
  obtain ⟨d, d1, d2⟩ := doubt_same V
  obtain ⟨g, g1, g2⟩ := factor_same h (degSum C (partOf w va) V 6)
  unfold fX0_statedDoubt fX7_statedOf
  rw [d1, bnd1_s, g1, bnd1_s, d2, bnd1_s, m_degrees hC, bnd1_s, m_hasNone hC, bnd1_s, g2, bnd1_s]
  by_cases c1 : lg_cmp d (-1) = 0
  · rw [if_pos c1]
    exact ⟨_, rfl, rfl⟩
  · rw [if_neg c1]
    by_cases c2 : g = -1
    · rw [if_pos c2]
      exact ⟨_, rfl, rfl⟩
    · rw [if_neg c2]
      exact ⟨_, rfl, rfl⟩
