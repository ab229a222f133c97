/-! ===== the variance of a model ===== -/
def partOf (w : Nat → Int64) (va : Nat → Int32) (i : Nat) : Int64 := w i * w i * (va i).toInt64
def covTerm (w : Nat → Int64) (cv : Nat → Nat → Int32) (i o : Nat) : Int64 := 2 * w i * w o * (cv i o).toInt64
def varTo (w : Nat → Int64) (va : Nat → Int32) (cv : Nat → Nat → Int32) (n : Nat) : Int64 := sumTo (fun i => partOf w va i + sumTo (covTerm w cv i) i) n
def conTo (w : Nat → Int64) (va : Nat → Int32) (C : Nat → Int64) (n : Nat) : Nat → Int64 := fun k => if k < n then partOf w va k else C k
theorem c_cov_loop (FK FL FR : Nat → Int32) (fs fr : Int32) (ie va ic : Nat → Int32) (cv : Nat → Nat → Int32) (E : Int32 → (Nat → Int64) → (Nat → Int64) → Int64 → Int64 → (Nat → Int64) → (Nat → Int64) → Option ((Nat → Int64) × (Nat → Int64) × Int64 × Int64 × (Nat → Int64) × (Nat → Int64))) {i : Nat} (hi : i < 6) (w C : Nat → Int64) (V D : Int64) (F G : Nat → Int64) :
    ∀ (f j : Nat), j ≤ i → i - j < f → LX0_reckon_70 FK FL FR fs fr ie va ic cv E f (nI i) (nI j) w C (V + sumTo (covTerm w cv i) j) D F G = E (nI i) w C (V + sumTo (covTerm w cv i) i) D F G
  | 0, j, _, q => absurd q (Nat.not_lt_zero _)
  | f + 1, j, hj, q => by
    rw [LX0_reckon_70]
    by_cases hc : i ≤ j
    · have : j = i := by omega
      subst this
      rw [if_pos ((nI_leI (by omega) (by omega)).mpr hc)]
    · rw [if_neg (fun q => hc ((nI_leI (by omega) (by omega)).mp q))]
      simp only [gi_n hi (show 6 < 2 ^ 31 by omega), gi_n (show j < 6 by omega) (show 6 < 2 ^ 31 by omega), nI_1, clamp_n (show i < 2 ^ 31 by omega), clamp_n (show j < 2 ^ 31 by omega)]
      have e : V + sumTo (covTerm w cv i) j + 2 * w i * w j * (cv i j).toInt64 = V + sumTo (covTerm w cv i) (j + 1) := by
        show _ = V + (sumTo (covTerm w cv i) j + covTerm w cv i j)
        unfold covTerm
        grind
      rw [e]
      exact c_cov_loop FK FL FR fs fr ie va ic cv E hi w C V D F G f (j + 1) (by omega) (by omega)
theorem c_var_loop (FK FL FR : Nat → Int32) (fs fr : Int32) (ie va ic : Nat → Int32) (cv : Nat → Nat → Int32) (E : (Nat → Int64) → (Nat → Int64) → Int64 → Int64 → (Nat → Int64) → (Nat → Int64) → Option ((Nat → Int64) × (Nat → Int64) × Int64 × Int64 × (Nat → Int64) × (Nat → Int64))) (w C : Nat → Int64) (D : Int64) (F G : Nat → Int64) :
    ∀ (f i : Nat), i ≤ 6 → 6 - i < f → LX0_reckon_19 FK FL FR fs fr ie va ic cv E f (nI i) w (conTo w va C i) (varTo w va cv i) D F G = E w (conTo w va C 6) (varTo w va cv 6) D F G
  | 0, i, _, q => absurd q (Nat.not_lt_zero _)
  | f + 1, i, hi, q => by
    rw [LX0_reckon_19]
    by_cases hc : 6 ≤ i
    · have : i = 6 := by omega
      subst this
      rw [if_pos (by decide)]
    · have hq : ¬ (6 : Int32) ≤ nI i := fun q => hc ((nI_leI (a := 6) (by omega) (by omega)).mp q)
      rw [if_neg hq]
      simp only [gi_n (show i < 6 by omega) (show 6 < 2 ^ 31 by omega), clamp_n (show i < 2 ^ 31 by omega), updL_at, if_true]
      have e1 : vp_updL (conTo w va C i) i (w i * w i * (va i).toInt64) = conTo w va C (i + 1) := funext fun k => by
        rw [updL_at]
        unfold conTo
        by_cases h1 : k = i
        · rw [if_pos h1, h1, if_pos (by omega)]; rfl
        · by_cases h2 : k < i
          · rw [if_neg h1, if_pos h2, if_pos (by omega)]
          · rw [if_neg h1, if_neg h2, if_neg (by omega)]
      rw [e1]
      have l := c_cov_loop FK FL FR fs fr ie va ic cv (fun v3 Bslopes Bcontributions Bvariance BdegreesSum Fvalues Fslopes => LX0_reckon_19 FK FL FR fs fr ie va ic cv E f (v3 + 1) Bslopes Bcontributions Bvariance BdegreesSum Fvalues Fslopes) (show i < 6 by omega) w (conTo w va C (i + 1)) (varTo w va cv i + w i * w i * (va i).toInt64) D F G 1000 0 (by omega) (by omega)
      have z : varTo w va cv i + w i * w i * (va i).toInt64 + sumTo (covTerm w cv i) 0 = varTo w va cv i + w i * w i * (va i).toInt64 := by
        show _ + 0 = _
        grind
      rw [z] at l
      refine Eq.trans l ?_
      have e2 : varTo w va cv i + w i * w i * (va i).toInt64 + sumTo (covTerm w cv i) i = varTo w va cv (i + 1) := by
        show _ = varTo w va cv i + (partOf w va i + sumTo (covTerm w cv i) i)
        unfold partOf
        grind
      rw [e2, nI_1]
      exact c_var_loop FK FL FR fs fr ie va ic cv E w C D F G f (i + 1) (by omega) (by omega)
/-! the reference's -/
theorem ix6 (a b : Nat) : (6 : Int32) * nI a + nI b = nI (6 * a + b) := by
  rw [show (6 : Int32) = nI 6 from rfl, pk_mul, nI_add]
/-! ===== degrees ===== -/
def degOf (C : Nat → Int32) (k : Nat) : Int32 := if C k ≤ 1 then 0 else C k - 1
def shareAt (p V : Int64) : Int64 := if V = 0 then 0 else 100 * p / V
def degSum (C : Nat → Int32) (P : Nat → Int64) (V : Int64) : Nat → Int64
  | 0 => 0
  | k + 1 => if degOf C k ≤ 0 then degSum C P V k else degSum C P V k + shareAt (P k) V * shareAt (P k) V / (degOf C k).toInt64
theorem c_degreesOf {i : Nat} (hi : i < 6) (C : Nat → Int32) : fX4_degreesOf (nI i) C = some (degOf C i) := by
  unfold fX4_degreesOf degOf
  simp only [gi_n hi (show 6 < 2 ^ 31 by omega), clamp_n (show i < 2 ^ 31 by omega)]
  by_cases h : C i ≤ 1
  · rw [if_pos h, if_pos h]
  · rw [if_neg h, if_neg h]
theorem c_shareOf {i : Nat} (hi : i < 6) (P : Nat → Int64) (V : Int64) : fX0_shareOf (nI i) P V = some (shareAt (P i) V) := by
  unfold fX0_shareOf shareAt
  by_cases h : V = 0
  · rw [if_pos ((lg_cmp_eq V 0).mpr h), if_pos h]
  · rw [if_neg (fun q => h ((lg_cmp_eq V 0).mp q)), if_neg h, gi_n hi (by omega), gzL_ok h, clamp_n (by omega)]
theorem toInt64_ne0 {x : Int32} (h : ¬ x ≤ 0) : ¬ x.toInt64 = 0 := fun q => h (by
  have z : (0 : Int32).toInt = 0 := by decide
  have := congrArg Int64.toInt q
  rw [Int32.toInt_toInt64] at this
  rw [le_i, this, z]
  decide)
theorem c_deg_loop (P : Nat → Int64) (V : Int64) (C : Nat → Int32) (E : Int64 → Option Int64) :
    ∀ (f i : Nat), i ≤ 6 → 6 - i < f → LX0_reckonDegreesSum_7 P V C E f (nI i) (degSum C P V i) = E (degSum C P V 6)
  | 0, i, _, q => absurd q (Nat.not_lt_zero _)
  | f + 1, i, hi, q => by
    rw [LX0_reckonDegreesSum_7]
    by_cases hc : 6 ≤ i
    · have : i = 6 := by omega
      subst this
      rw [if_pos (by decide)]
    · have hq : ¬ (6 : Int32) ≤ nI i := fun q => hc ((nI_leI (a := 6) (by omega) (by omega)).mp q)
      have ih := c_deg_loop P V C E f (i + 1) (by omega) (by omega)
      rw [if_neg hq, c_degreesOf (by omega), bnd1_s, nI_1]
      by_cases h : degOf C i ≤ 0
      · rw [if_pos h]
        rw [show degSum C P V (i + 1) = degSum C P V i from if_pos h] at ih
        exact ih
      · rw [if_neg h, c_shareOf (by omega), bnd1_s, bnd1_s, gzL_ok (toInt64_ne0 h)]
        rw [show degSum C P V (i + 1) = degSum C P V i + shareAt (P i) V * shareAt (P i) V / (degOf C i).toInt64 from if_neg h] at ih
        exact ih
theorem c_reckonDegreesSum (P : Nat → Int64) (V D : Int64) (C : Nat → Int32) : fX0_reckonDegreesSum P V D C = some (degSum C P V 6) := by
  unfold fX0_reckonDegreesSum
  exact c_deg_loop P V C (fun d => some d) 1000 0 (by omega) (by omega)
/-- READ goes with readings -/
def sortCnt (S C : Nat → Int32) : Prop := ∀ i, i < 6 → (S i = 4 ∧ ∃ c, 1 ≤ c ∧ c ≤ 8 ∧ C i = nI c) ∨ (¬ S i = 4 ∧ C i = 0)
theorem degSum_congr {C : Nat → Int32} {P Q : Nat → Int64} {V : Int64} : ∀ {n : Nat}, (∀ i, i < n → P i = Q i) → degSum C P V n = degSum C Q V n
  | 0, _ => rfl
  | n + 1, h => by
    unfold degSum
    rw [degSum_congr (n := n) (fun i q => h i (by omega)), h n (by omega)]
/-! ===== the budget as a whole ===== -/
theorem conTo_0 (w : Nat → Int64) (va : Nat → Int32) (C : Nat → Int64) : conTo w va C 0 = C := funext fun k => if_neg (Nat.not_lt_zero k)
theorem conTo_lt {w : Nat → Int64} {va : Nat → Int32} {C : Nat → Int64} {i : Nat} (h : i < 6) : conTo w va C 6 i = partOf w va i := if_pos h
theorem c_reckon {sz rt : Nat} (hsz : sz ≤ 60) {K L R : Nat → Int32} (h : ∀ n, n < sz → rowOK n (K n) (L n) (R n)) (hr : rt < sz) (u va C : Nat → Int32) (cv : Nat → Nat → Int32) (w0 P0 : Nat → Int64) (V0 D0 : Int64) (F G : Nat → Int64) :
    ∃ A2 w2 : Nat → Int64, fX0_reckon w0 P0 V0 D0 K L R F G (nI sz) (nI rt) u va C cv = some (w2, conTo w2 va P0 6, varTo w2 va cv 6, degSum C (partOf w2 va) (varTo w2 va cv 6) 6, valsTo K L R u sz F, A2) ∧ ∀ (S : Nat → Int64) (i : Nat), i < 6 → w2 i = slopesTo K L R (nI i) (valsTo K L R u sz F) sz S rt := by
  obtain ⟨A2, w2, e, hw⟩ := c_slopesBackward hsz h hr u F G w0
  refine ⟨A2, w2, ?_, hw⟩
  unfold fX0_reckon
  rw [e, bnd3_s]
  have l := c_var_loop K L R (nI sz) (nI rt) u va C cv (fun Bslopes Bcontributions Bvariance BdegreesSum Fvalues Fslopes => bnd1 (fX0_reckonDegreesSum Bcontributions Bvariance BdegreesSum C) (fun degreesSum_13 => some (Bslopes, Bcontributions, Bvariance, degreesSum_13, Fvalues, Fslopes))) w2 P0 D0 (valsTo K L R u sz F) A2 1000 0 (by omega) (by omega)
  rw [conTo_0] at l
  refine Eq.trans l ?_
  rw [c_reckonDegreesSum, bnd1_s, degSum_congr (Q := partOf w2 va) (fun i hi => conTo_lt hi)]
/-! ===== the doubt ===== -/
theorem shl_1 : ∀ k, k < 32 → jlshl 1 (nI k) = lN (2 ^ k) := by decide +kernel
theorem sq_small {r v : Nat} (h : r * r ≤ v) (hv : v < 2 ^ 63) : r ≤ 3037000499 := by
  by_cases q : r ≤ 3037000499
  · exact q
  · have := Nat.mul_le_mul (show 3037000500 ≤ r by omega) (show 3037000500 ≤ r by omega)
    omega
/-! ===== degrees and their factor ===== -/
def degAns (s : Int64) : Int64 := if s = 0 then -1 else 10000 / s
theorem c_degrees (s : Int64) : fX0_degrees s = some (degAns s) := by
  unfold fX0_degrees degAns
  by_cases h : s = 0
  · rw [if_pos ((lg_cmp_eq s 0).mpr h), if_pos h]
  · rw [if_neg (fun q => h ((lg_cmp_eq s 0).mp q)), if_neg h, gzL_ok h]
/-! ===== ranks ===== -/
def rankTo (P : Nat → Int64) (i : Nat) : Nat → Nat
  | 0 => 0
  | o + 1 => rankTo P i o + (if P i < P o ∨ (P o = P i ∧ o < i) then 1 else 0)
theorem rankTo_yes {P : Nat → Int64} {i o : Nat} (y : P i < P o ∨ (P o = P i ∧ o < i)) : rankTo P i (o + 1) = rankTo P i o + 1 := by
  show rankTo P i o + (if P i < P o ∨ (P o = P i ∧ o < i) then 1 else 0) = _
  rw [if_pos y]
theorem rankTo_no {P : Nat → Int64} {i o : Nat} (y : ¬ (P i < P o ∨ (P o = P i ∧ o < i))) : rankTo P i (o + 1) = rankTo P i o := by
  show rankTo P i o + (if P i < P o ∨ (P o = P i ∧ o < i) then 1 else 0) = _
  rw [if_neg y]
  rfl
theorem rankTo_le (P : Nat → Int64) (i : Nat) : ∀ n, rankTo P i n ≤ n
  | 0 => Nat.le_refl _
  | n + 1 => by
    have := rankTo_le P i n
    unfold rankTo
    split <;> omega
theorem rankTo_congr {P Q : Nat → Int64} (h : ∀ i, i < 6 → P i = Q i) {i : Nat} (hi : i < 6) : ∀ n, n ≤ 6 → rankTo P i n = rankTo Q i n
  | 0, _ => rfl
  | n + 1, hn => by
    unfold rankTo
    rw [rankTo_congr h hi n (by omega), h i hi, h n (by omega)]
theorem c_rank_loop (P : Nat → Int64) {i : Nat} (hi : i < 6) (E : Int32 → Option Int32) : ∀ (f o : Nat), o ≤ 6 → 6 - o < f → LX0_rankOf_4 P (nI i) E f (nI (rankTo P i o)) (nI o) = E (nI (rankTo P i 6))
  | 0, o, _, q => absurd q (Nat.not_lt_zero _)
  | f + 1, o, ho, q => by
    rw [LX0_rankOf_4]
    by_cases hc : 6 ≤ o
    · have : o = 6 := by omega
      subst this
      rw [if_pos (by decide)]
    · have hq : ¬ (6 : Int32) ≤ nI o := fun q => hc ((nI_leI (a := 6) (by omega) (by omega)).mp q)
      have ih := c_rank_loop P hi E f (o + 1) (by omega) (by omega)
      rw [if_neg hq]
      unfold BX0_rankOf_31
      simp only [gi_n (show o < 6 by omega) (show 6 < 2 ^ 31 by omega), gi_n hi (show 6 < 2 ^ 31 by omega), clamp_n (show o < 2 ^ 31 by omega), clamp_n (show i < 2 ^ 31 by omega), nI_1, lg_cmp_gt, lg_cmp_eq, nI_leI (show i < 2 ^ 31 by omega) (show o < 2 ^ 31 by omega)]
      have yes : (P i < P o ∨ (P o = P i ∧ o < i)) → LX0_rankOf_4 P (nI i) E f (nI (rankTo P i o + 1)) (nI (o + 1)) = E (nI (rankTo P i 6)) := fun y => by
        rw [rankTo_yes y] at ih
        exact ih
      have no : ¬ (P i < P o ∨ (P o = P i ∧ o < i)) → LX0_rankOf_4 P (nI i) E f (nI (rankTo P i o)) (nI (o + 1)) = E (nI (rankTo P i 6)) := fun y => by
        rw [rankTo_no y] at ih
        exact ih
      by_cases c1 : P o = P i
      · have nl : ¬ P i < P o := fun y => lg_lt_ne y c1.symm
        rw [if_pos c1, if_neg nl, if_neg (show ¬ (1 : Int32) = 0 by decide)]
        by_cases c2 : i ≤ o
        · rw [if_pos c2]
          exact no (fun y => y.elim nl (fun z => by omega))
        · rw [if_neg c2]
          exact yes (Or.inr ⟨c1, by omega⟩)
      · rw [if_neg c1]
        by_cases c2 : P i < P o
        · rw [if_pos c2]
          exact yes (Or.inl c2)
        · rw [if_neg c2, if_pos trivial]
          exact no (fun y => y.elim c2 (fun z => c1 z.1))
theorem c_rankOf (P : Nat → Int64) {i : Nat} (hi : i < 6) : fX0_rankOf (nI i) P = some (nI (rankTo P i 6)) := c_rank_loop P hi (fun v2 => some v2) 1000 0 (by omega) (by omega)
