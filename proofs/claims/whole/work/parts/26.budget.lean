/-! ===== the variance of a model ===== -/
def partOf (w : Nat → Int64) (va : Nat → Int32) (i : Nat) : Int64 := w i * w i * (va i).toInt64
def covTerm (w : Nat → Int64) (cv : Nat → Nat → Int32) (i o : Nat) : Int64 := 2 * w i * w o * (cv i o).toInt64
def varTo (w : Nat → Int64) (va : Nat → Int32) (cv : Nat → Nat → Int32) (n : Nat) : Int64 := sumTo (fun i => partOf w va i + sumTo (covTerm w cv i) i) n
def conTo (w : Nat → Int64) (va : Nat → Int32) (C : Nat → Int64) (n : Nat) : Nat → Int64 := fun k => if k < n then partOf w va k else C k
theorem c_cov_loop (FK FL FR : Nat → Int32) (fs fr : Int32) (ie va ic : Nat → Int32) (cv : Nat → Nat → Int32) (E : Int32 → (Nat → Int64) → (Nat → Int64) → Int64 → Int64 → (Nat → Int64) → (Nat → Int64) → Option ((Nat → Int64) × (Nat → Int64) × Int64 × Int64 × (Nat → Int64) × (Nat → Int64))) {i : Nat} (hi : i < 6) (w C : Nat → Int64) (V D : Int64) (F G : Nat → Int64) :
    ∀ (f j : Nat), j ≤ i → i - j < f → LX0_reckon_70 FK FL FR fs fr ie va ic cv E f (nI i) (nI j) w C (V + sumTo (covTerm w cv i) j) D F G = E (nI i) w C (V + sumTo (covTerm w cv i) i) D F G
  | 0, j, _, q => absurd q (Nat.not_lt_zero _)
  | f + 1, j, hj, q => by
    rw [LX0_reckon_70]
    by_cases hc : i ≤ j
    · have : j = i := by omega
      subst this
      rw [if_pos ((nI_leI (by omega) (by omega)).mpr hc)]
    · rw [if_neg (fun q => hc ((nI_leI (by omega) (by omega)).mp q))]
      simp only [gi_n hi (show 6 < 2 ^ 31 by omega), gi_n (show j < 6 by omega) (show 6 < 2 ^ 31 by omega), nI_1, clamp_n (show i < 2 ^ 31 by omega), clamp_n (show j < 2 ^ 31 by omega)]
      have e : V + sumTo (covTerm w cv i) j + 2 * w i * w j * (cv i j).toInt64 = V + sumTo (covTerm w cv i) (j + 1) := by
        show _ = V + (sumTo (covTerm w cv i) j + covTerm w cv i j)
        unfold covTerm
        grind
      rw [e]
      exact c_cov_loop FK FL FR fs fr ie va ic cv E hi w C V D F G f (j + 1) (by omega) (by omega)
theorem c_var_loop (FK FL FR : Nat → Int32) (fs fr : Int32) (ie va ic : Nat → Int32) (cv : Nat → Nat → Int32) (E : (Nat → Int64) → (Nat → Int64) → Int64 → Int64 → (Nat → Int64) → (Nat → Int64) → Option ((Nat → Int64) × (Nat → Int64) × Int64 × Int64 × (Nat → Int64) × (Nat → Int64))) (w C : Nat → Int64) (D : Int64) (F G : Nat → Int64) :
    ∀ (f i : Nat), i ≤ 6 → 6 - i < f → LX0_reckon_19 FK FL FR fs fr ie va ic cv E f (nI i) w (conTo w va C i) (varTo w va cv i) D F G = E w (conTo w va C 6) (varTo w va cv 6) D F G
  | 0, i, _, q => absurd q (Nat.not_lt_zero _)
  | f + 1, i, hi, q => by
    rw [LX0_reckon_19]
    by_cases hc : 6 ≤ i
    · have : i = 6 := by omega
      subst this
      rw [if_pos (by decide)]
    · have hq : ¬ (6 : Int32) ≤ nI i := fun q => hc ((nI_leI (a := 6) (by omega) (by omega)).mp q)
      rw [if_neg hq]
      simp only [gi_n (show i < 6 by omega) (show 6 < 2 ^ 31 by omega), clamp_n (show i < 2 ^ 31 by omega), updL_at, if_true]
      have e1 : vp_updL (conTo w va C i) i (w i * w i * (va i).toInt64) = conTo w va C (i + 1) := funext fun k => by
        rw [updL_at]
        unfold conTo
        by_cases h1 : k = i
        · rw [if_pos h1, h1, if_pos (by omega)]; rfl
        · by_cases h2 : k < i
          · rw [if_neg h1, if_pos h2, if_pos (by omega)]
          · rw [if_neg h1, if_neg h2, if_neg (by omega)]
      rw [e1]
      have l := c_cov_loop FK FL FR fs fr ie va ic cv (fun v3 Bslopes Bcontributions Bvariance BdegreesSum Fvalues Fslopes => LX0_reckon_19 FK FL FR fs fr ie va ic cv E f (v3 + 1) Bslopes Bcontributions Bvariance BdegreesSum Fvalues Fslopes) (show i < 6 by omega) w (conTo w va C (i + 1)) (varTo w va cv i + w i * w i * (va i).toInt64) D F G 1000 0 (by omega) (by omega)
      have z : varTo w va cv i + w i * w i * (va i).toInt64 + sumTo (covTerm w cv i) 0 = varTo w va cv i + w i * w i * (va i).toInt64 := by
        show _ + 0 = _
        grind
      rw [z] at l
      refine Eq.trans l ?_
      have e2 : varTo w va cv i + w i * w i * (va i).toInt64 + sumTo (covTerm w cv i) i = varTo w va cv (i + 1) := by
        show _ = varTo w va cv i + (partOf w va i + sumTo (covTerm w cv i) i)
        unfold partOf
        grind
      rw [e2, nI_1]
      exact c_var_loop FK FL FR fs fr ie va ic cv E w C D F G f (i + 1) (by omega) (by omega)
/-! the reference's -/
theorem m_part {i : Nat} (hi : i < 6) (va : Nat → Int32) (w : Nat → Int64) : fX7_part (nI i) va w = some (partOf w va i) := by
  unfold fX7_part
  simp only [gi_n hi (show 6 < 2 ^ 31 by omega), clamp_n (show i < 2 ^ 31 by omega)]
  rfl
def covTermM (w : Nat → Int64) (mc : Nat → Int32) (a b : Nat) : Int64 := 2 * (w a * w b * (mc (6 * a + b)).toInt64)
theorem ix6 (a b : Nat) : (6 : Int32) * nI a + nI b = nI (6 * a + b) := by
  rw [show (6 : Int32) = nI 6 from rfl, pk_mul, nI_add]
theorem m_cov_loop (va mc : Nat → Int32) (E : Int64 → Int32 → Option Int64) {a : Nat} (ha : a < 6) (w : Nat → Int64) (V : Int64) :
    ∀ (f t : Nat), a + 1 + t ≤ 6 → 6 - (a + 1 + t) < f → LX7_varianceOf_23 va mc w E f (V + sumTo (fun t => covTermM w mc a (a + 1 + t)) t) (nI a) (nI (a + 1 + t)) = E (V + sumTo (fun t => covTermM w mc a (a + 1 + t)) (5 - a)) (nI a)
  | 0, t, _, q => absurd q (Nat.not_lt_zero _)
  | f + 1, t, ht, q => by
    rw [LX7_varianceOf_23]
    by_cases hc : 6 ≤ a + 1 + t
    · have : t = 5 - a := by omega
      subst this
      rw [show a + 1 + (5 - a) = 6 by omega, if_pos (by decide)]
    · have hq : ¬ (6 : Int32) ≤ nI (a + 1 + t) := fun q => hc ((nI_leI (a := 6) (by omega) (by omega)).mp q)
      rw [if_neg hq]
      simp only [gi_n ha (show 6 < 2 ^ 31 by omega), gi_n (show a + 1 + t < 6 by omega) (show 6 < 2 ^ 31 by omega), ix6, gi_n (show 6 * a + (a + 1 + t) < 36 by omega) (show 36 < 2 ^ 31 by omega), nI_1, clamp_n (show a < 2 ^ 31 by omega), clamp_n (show a + 1 + t < 2 ^ 31 by omega), clamp_n (show 6 * a + (a + 1 + t) < 2 ^ 31 by omega)]
      have e : V + sumTo (fun t => covTermM w mc a (a + 1 + t)) t + 2 * (w a * w (a + 1 + t) * (mc (6 * a + (a + 1 + t))).toInt64) = V + sumTo (fun t => covTermM w mc a (a + 1 + t)) (t + 1) := by
        show _ = V + (sumTo (fun t => covTermM w mc a (a + 1 + t)) t + covTermM w mc a (a + 1 + t))
        unfold covTermM
        grind
      rw [e, show a + 1 + t + 1 = a + 1 + (t + 1) by omega]
      exact m_cov_loop va mc E ha w V f (t + 1) (by omega) (by omega)
def varToM (w : Nat → Int64) (va mc : Nat → Int32) (n : Nat) : Int64 := sumTo (fun a => partOf w va a + sumTo (fun t => covTermM w mc a (a + 1 + t)) (5 - a)) n
theorem m_var_loop (va mc : Nat → Int32) (E : Int64 → Option Int64) (w : Nat → Int64) :
    ∀ (f a : Nat), a ≤ 6 → 6 - a < f → LX7_varianceOf_4 va mc w E f (varToM w va mc a) (nI a) = E (varToM w va mc 6)
  | 0, a, _, q => absurd q (Nat.not_lt_zero _)
  | f + 1, a, ha, q => by
    rw [LX7_varianceOf_4]
    by_cases hc : 6 ≤ a
    · have : a = 6 := by omega
      subst this
      rw [if_pos (by decide)]
    · have hq : ¬ (6 : Int32) ≤ nI a := fun q => hc ((nI_leI (a := 6) (by omega) (by omega)).mp q)
      rw [if_neg hq, m_part (by omega), bnd1_s]
      have l := m_cov_loop va mc (fun v1 v3 => LX7_varianceOf_4 va mc w E f v1 (v3 + 1)) (show a < 6 by omega) w (varToM w va mc a + partOf w va a) 1000 0 (by omega) (by omega)
      have z : varToM w va mc a + partOf w va a + sumTo (fun t => covTermM w mc a (a + 1 + t)) 0 = varToM w va mc a + partOf w va a := by
        show _ + 0 = _
        grind
      rw [z] at l
      rw [nI_1]
      refine Eq.trans l ?_
      have e2 : varToM w va mc a + partOf w va a + sumTo (fun t => covTermM w mc a (a + 1 + t)) (5 - a) = varToM w va mc (a + 1) := by
        show _ = varToM w va mc a + (partOf w va a + sumTo (fun t => covTermM w mc a (a + 1 + t)) (5 - a))
        grind
      rw [e2, nI_1]
      exact m_var_loop va mc E w f (a + 1) (by omega) (by omega)
theorem m_varianceOf (va mc : Nat → Int32) (w : Nat → Int64) : fX7_varianceOf va mc w = some (varToM w va mc 6) := by
  unfold fX7_varianceOf
  exact m_var_loop va mc (fun v1 => some v1) w 1000 0 (by omega) (by omega)
/-- both sums are one -/
theorem cov_one {w : Nat → Int64} {mc : Nat → Int32} {cv : Nat → Nat → Int32} {i o : Nat} (h : cv i o = mc (6 * o + i)) : covTerm w cv i o = covTermM w mc o i := by
  unfold covTerm covTermM
  rw [h]
  grind
theorem var_same {w : Nat → Int64} {va vb mc : Nat → Int32} {cv : Nat → Nat → Int32} (hv : ∀ i, i < 6 → va i = vb i) (hc : ∀ i o, o < i → i < 6 → cv i o = mc (6 * o + i)) : varTo w va cv 6 = varToM w vb mc 6 := by
  have hp : ∀ i, i < 6 → partOf w va i = partOf w vb i := fun i h => by
    unfold partOf
    rw [hv i h]
  have l : varTo w va cv 6 = ((((((0 + (partOf w va 0 + 0)) + (partOf w va 1 + (0 + covTerm w cv 1 0))) + (partOf w va 2 + ((0 + covTerm w cv 2 0) + covTerm w cv 2 1))) + (partOf w va 3 + (((0 + covTerm w cv 3 0) + covTerm w cv 3 1) + covTerm w cv 3 2))) + (partOf w va 4 + ((((0 + covTerm w cv 4 0) + covTerm w cv 4 1) + covTerm w cv 4 2) + covTerm w cv 4 3))) + (partOf w va 5 + (((((0 + covTerm w cv 5 0) + covTerm w cv 5 1) + covTerm w cv 5 2) + covTerm w cv 5 3) + covTerm w cv 5 4))) := rfl
  have r : varToM w vb mc 6 = ((((((0 + (partOf w vb 0 + (((((0 + covTermM w mc 0 1) + covTermM w mc 0 2) + covTermM w mc 0 3) + covTermM w mc 0 4) + covTermM w mc 0 5))) + (partOf w vb 1 + ((((0 + covTermM w mc 1 2) + covTermM w mc 1 3) + covTermM w mc 1 4) + covTermM w mc 1 5))) + (partOf w vb 2 + (((0 + covTermM w mc 2 3) + covTermM w mc 2 4) + covTermM w mc 2 5))) + (partOf w vb 3 + ((0 + covTermM w mc 3 4) + covTermM w mc 3 5))) + (partOf w vb 4 + (0 + covTermM w mc 4 5))) + (partOf w vb 5 + 0)) := rfl
  rw [l, r, hp 0 (by omega), hp 1 (by omega), hp 2 (by omega), hp 3 (by omega), hp 4 (by omega), hp 5 (by omega), cov_one (hc 1 0 (by omega) (by omega)), cov_one (hc 2 0 (by omega) (by omega)), cov_one (hc 2 1 (by omega) (by omega)), cov_one (hc 3 0 (by omega) (by omega)), cov_one (hc 3 1 (by omega) (by omega)), cov_one (hc 3 2 (by omega) (by omega)), cov_one (hc 4 0 (by omega) (by omega)), cov_one (hc 4 1 (by omega) (by omega)), cov_one (hc 4 2 (by omega) (by omega)), cov_one (hc 4 3 (by omega) (by omega)), cov_one (hc 5 0 (by omega) (by omega)), cov_one (hc 5 1 (by omega) (by omega)), cov_one (hc 5 2 (by omega) (by omega)), cov_one (hc 5 3 (by omega) (by omega)), cov_one (hc 5 4 (by omega) (by omega))]
  generalize partOf w vb 0 = x0
  generalize partOf w vb 1 = x1
  generalize partOf w vb 2 = x2
  generalize partOf w vb 3 = x3
  generalize partOf w vb 4 = x4
  generalize partOf w vb 5 = x5
  generalize covTermM w mc 0 1 = x6
  generalize covTermM w mc 0 2 = x7
  generalize covTermM w mc 1 2 = x8
  generalize covTermM w mc 0 3 = x9
  generalize covTermM w mc 1 3 = x10
  generalize covTermM w mc 2 3 = x11
  generalize covTermM w mc 0 4 = x12
  generalize covTermM w mc 1 4 = x13
  generalize covTermM w mc 2 4 = x14
  generalize covTermM w mc 3 4 = x15
  generalize covTermM w mc 0 5 = x16
  generalize covTermM w mc 1 5 = x17
  generalize covTermM w mc 2 5 = x18
  generalize covTermM w mc 3 5 = x19
  generalize covTermM w mc 4 5 = x20
  simp only [Int64.zero_add, Int64.add_zero]
  ac_rfl
/-! ===== degrees ===== -/
def degOf (C : Nat → Int32) (k : Nat) : Int32 := if C k ≤ 1 then 0 else C k - 1
def shareAt (p V : Int64) : Int64 := if V = 0 then 0 else 100 * p / V
def degSum (C : Nat → Int32) (P : Nat → Int64) (V : Int64) : Nat → Int64
  | 0 => 0
  | k + 1 => if degOf C k ≤ 0 then degSum C P V k else degSum C P V k + shareAt (P k) V * shareAt (P k) V / (degOf C k).toInt64
theorem c_degreesOf {i : Nat} (hi : i < 6) (C : Nat → Int32) : fX4_degreesOf (nI i) C = some (degOf C i) := by
  unfold fX4_degreesOf degOf
  simp only [gi_n hi (show 6 < 2 ^ 31 by omega), clamp_n (show i < 2 ^ 31 by omega)]
  by_cases h : C i ≤ 1
  · rw [if_pos h, if_pos h]
  · rw [if_neg h, if_neg h]
theorem c_shareOf {i : Nat} (hi : i < 6) (P : Nat → Int64) (V : Int64) : fX0_shareOf (nI i) P V = some (shareAt (P i) V) := by
  unfold fX0_shareOf shareAt
  by_cases h : V = 0
  · rw [if_pos ((lg_cmp_eq V 0).mpr h), if_pos h]
  · rw [if_neg (fun q => h ((lg_cmp_eq V 0).mp q)), if_neg h, gi_n hi (by omega), gzL_ok h, clamp_n (by omega)]
theorem toInt64_ne0 {x : Int32} (h : ¬ x ≤ 0) : ¬ x.toInt64 = 0 := fun q => h (by
  have z : (0 : Int32).toInt = 0 := by decide
  have := congrArg Int64.toInt q
  rw [Int32.toInt_toInt64] at this
  rw [le_i, this, z]
  decide)
theorem c_deg_loop (P : Nat → Int64) (V : Int64) (C : Nat → Int32) (E : Int64 → Option Int64) :
    ∀ (f i : Nat), i ≤ 6 → 6 - i < f → LX0_reckonDegreesSum_7 P V C E f (nI i) (degSum C P V i) = E (degSum C P V 6)
  | 0, i, _, q => absurd q (Nat.not_lt_zero _)
  | f + 1, i, hi, q => by
    rw [LX0_reckonDegreesSum_7]
    by_cases hc : 6 ≤ i
    · have : i = 6 := by omega
      subst this
      rw [if_pos (by decide)]
    · have hq : ¬ (6 : Int32) ≤ nI i := fun q => hc ((nI_leI (a := 6) (by omega) (by omega)).mp q)
      have ih := c_deg_loop P V C E f (i + 1) (by omega) (by omega)
      rw [if_neg hq, c_degreesOf (by omega), bnd1_s, nI_1]
      by_cases h : degOf C i ≤ 0
      · rw [if_pos h]
        rw [show degSum C P V (i + 1) = degSum C P V i from if_pos h] at ih
        exact ih
      · rw [if_neg h, c_shareOf (by omega), bnd1_s, bnd1_s, gzL_ok (toInt64_ne0 h)]
        rw [show degSum C P V (i + 1) = degSum C P V i + shareAt (P i) V * shareAt (P i) V / (degOf C i).toInt64 from if_neg h] at ih
        exact ih
theorem c_reckonDegreesSum (P : Nat → Int64) (V D : Int64) (C : Nat → Int32) : fX0_reckonDegreesSum P V D C = some (degSum C P V 6) := by
  unfold fX0_reckonDegreesSum
  exact c_deg_loop P V C (fun d => some d) 1000 0 (by omega) (by omega)
/-- READ goes with readings -/
def sortCnt (S C : Nat → Int32) : Prop := ∀ i, i < 6 → (S i = 4 ∧ ∃ c, 1 ≤ c ∧ c ≤ 8 ∧ C i = nI c) ∨ (¬ S i = 4 ∧ C i = 0)
theorem m_degreesOf {i : Nat} (hi : i < 6) {S C : Nat → Int32} (h : sortCnt S C) : fX7_degreesOf (nI i) S C = some (degOf C i) := by
  unfold fX7_degreesOf degOf
  simp only [gi_n hi (show 6 < 2 ^ 31 by omega), clamp_n (show i < 2 ^ 31 by omega)]
  rcases h i hi with ⟨h1, c, c1, c2, h2⟩ | ⟨h1, h2⟩
  · rw [if_pos h1, h2]
    by_cases hc : c ≤ 1
    · have : c = 1 := by omega
      subst this
      rw [if_pos (by decide)]
      rfl
    · have hq : ¬ nI c ≤ 1 := fun q => hc ((nI_leI (b := 1) (by omega) (by omega)).mp q)
      rw [if_neg hq]
  · rw [if_neg h1, h2, if_pos (by decide)]
theorem m_shareOf {i : Nat} (hi : i < 6) (V : Int64) (va : Nat → Int32) (w : Nat → Int64) : fX7_shareOf (nI i) V va w = some (shareAt (partOf w va i) V) := by
  unfold fX7_shareOf shareAt
  by_cases h : V = 0
  · rw [if_pos ((lg_cmp_eq V 0).mpr h), if_pos h]
  · rw [if_neg (fun q => h ((lg_cmp_eq V 0).mp q)), if_neg h, m_part hi, bnd1_s, gzL_ok h]
theorem m_deg_loop {S C va : Nat → Int32} (h : sortCnt S C) (w : Nat → Int64) (V : Int64) (E : Int64 → Option Int64) :
    ∀ (f i : Nat), i ≤ 6 → 6 - i < f → LX7_degreesSum_5 S C va w V E f (degSum C (partOf w va) V i) (nI i) = E (degSum C (partOf w va) V 6)
  | 0, i, _, q => absurd q (Nat.not_lt_zero _)
  | f + 1, i, hi, q => by
    rw [LX7_degreesSum_5]
    by_cases hc : 6 ≤ i
    · have : i = 6 := by omega
      subst this
      rw [if_pos (by decide)]
    · have hq : ¬ (6 : Int32) ≤ nI i := fun q => hc ((nI_leI (a := 6) (by omega) (by omega)).mp q)
      have ih := m_deg_loop (va := va) h w V E f (i + 1) (by omega) (by omega)
      rw [if_neg hq, m_degreesOf (by omega) h, bnd1_s, nI_1]
      by_cases h : degOf C i ≤ 0
      · rw [if_pos h]
        rw [show degSum C (partOf w va) V (i + 1) = degSum C (partOf w va) V i from if_pos h] at ih
        exact ih
      · rw [if_neg h, m_shareOf (by omega), bnd1_s, bnd1_s, gzL_ok (toInt64_ne0 h)]
        rw [show degSum C (partOf w va) V (i + 1) = degSum C (partOf w va) V i + shareAt (partOf w va i) V * shareAt (partOf w va i) V / (degOf C i).toInt64 from if_neg h] at ih
        exact ih
theorem m_degreesSum {S C : Nat → Int32} (h : sortCnt S C) (va : Nat → Int32) (w : Nat → Int64) (V : Int64) : fX7_degreesSum V S C va w = some (degSum C (partOf w va) V 6) := by
  unfold fX7_degreesSum
  exact m_deg_loop h w V (fun d => some d) 1000 0 (by omega) (by omega)
theorem degSum_congr {C : Nat → Int32} {P Q : Nat → Int64} {V : Int64} : ∀ {n : Nat}, (∀ i, i < n → P i = Q i) → degSum C P V n = degSum C Q V n
  | 0, _ => rfl
  | n + 1, h => by
    unfold degSum
    rw [degSum_congr (n := n) (fun i q => h i (by omega)), h n (by omega)]
