/-! ===== what is told of the inputs, on both sides ===== -/
def smallR (x : Int32) : Prop := -999 ≤ x.toInt ∧ x.toInt ≤ 999
def ARel (E V S C mE mV mS mM : Nat → Int32) : Prop := ∀ i, i < 6 → mE i = E i ∧ mV i = V i ∧ mS i = S i ∧ mM i = C i
def SRel (S W C mW mR : Nat → Int32) (RD : Nat → Nat → Int32) : Prop :=
  ∀ i, i < 6 → (S i = 4 ∧ ∃ c, 1 ≤ c ∧ c ≤ 8 ∧ C i = nI c ∧ ∀ k, k < c → RD i k = mR (8 * i + k) ∧ smallR (RD i k)) ∨ (∃ s w, s ≤ 3 ∧ w ≤ 99 ∧ S i = nI s ∧ C i = 0 ∧ W i = nI w ∧ mW i = nI w)
def URel (F1 F2 un : Nat → Int32) : Prop := ∀ j, j < 6 → F1 j = un (2 * j) ∧ F2 j = un (2 * j + 1)
def CRel (CV : Nat → Nat → Int32) (mC : Nat → Int32) : Prop := ∀ i o, i < 6 → o < 6 → CV i o = mC (6 * i + o) ∧ CV i o = CV o i
theorem SRel_cnt {S W C mW mR : Nat → Int32} {RD : Nat → Nat → Int32} (h : SRel S W C mW mR RD) : sortCnt S C := fun i hi => by
  rcases h i hi with ⟨h1, c, c1, c2, h2, -⟩ | ⟨s, w, h1, h2, h3, h4, -⟩
  · exact Or.inl ⟨h1, c, c1, c2, h2⟩
  · refine Or.inr ⟨?_, h4⟩
    rw [h3]
    exact fun q => absurd ((nI_eq (b := 4) (by omega) (by omega)).mp q) (by omega)
theorem ix6i (i o : Nat) : (6 : Int32) * nI i + nI o = nI (6 * i + o) := ix6 i o
/-! together -/
theorem c_together {i o : Nat} (hi : i < 6) (ho : o < 6) (v : Int32) (CV : Nat → Nat → Int32) : fX4_tellCovariance (nI i) (nI o) v CV = some (CV i o, upd2 (upd2 CV i o v) o i v) := by
  unfold fX4_tellCovariance
  simp only [gi_n hi (show 6 < 2 ^ 31 by omega), gi_n ho (show 6 < 2 ^ 31 by omega), clamp_n (show i < 2 ^ 31 by omega), clamp_n (show o < 2 ^ 31 by omega)]
theorem in_n {i : Nat} (hi : i < 6) : ¬ (nI i < 0 ∨ 5 < nI i) := fun q => by
  rcases q with q | q
  · exact nI_pos (by omega) q
  · have := (nI_ltI (a := 5) (by omega) (by omega)).mp q
    omega
theorem m_together_in {a b : Int32} (h : (a < 0 ∨ 5 < a) ∨ (b < 0 ∨ 5 < b)) (v : Int32) (mC : Nat → Int32) (T : Int32) : fX7_together a b v mC T = some (0, mC, 1) := by
  have e : BX7_together_18 a b v mC T = some (0, mC, 1) := by
    unfold BX7_together_18 BX7_together_19
    rw [if_pos rfl]
    unfold BX7_together_54
    rw [holds_eq]
    rfl
  unfold fX7_together
  rw [isInput_eq, isInput_eq, bnd1_s, e]
  by_cases h1 : a < 0 ∨ 5 < a
  · rw [if_pos h1, if_pos rfl]
  · rw [if_neg h1, if_neg (show ¬ (1 : Int32) = 0 by decide), bnd1_s, if_pos (h.elim (fun q => absurd q h1) id), if_pos rfl]
theorem m_together_bad {a b v : Int32} (ha : ¬ (a < 0 ∨ 5 < a)) (hb : ¬ (b < 0 ∨ 5 < b)) (h : a = b ∨ v < -9999 ∨ 9999 < v) (mC : Nat → Int32) (T : Int32) : fX7_together a b v mC T = some (0, mC, 2) := by
  have e : BX7_together_49 a b v mC T = some (0, mC, 2) := by
    unfold BX7_together_49 BX7_together_54
    rw [holds_eq]
    rfl
  unfold fX7_together
  rw [isInput_eq, isInput_eq, bnd1_s, if_neg ha, if_neg (show ¬ (1 : Int32) = 0 by decide), bnd1_s, if_neg hb, if_neg (show ¬ (1 : Int32) = 0 by decide)]
  unfold BX7_together_19
  rw [if_neg (show ¬ (1 : Int32) = 0 by decide), isIn_eq, bnd1_s, e]
  by_cases h1 : a = b
  · rw [if_pos h1]
  · rw [if_neg h1, if_pos (h.elim (fun q => absurd q h1) id), if_pos rfl]
theorem m_together_ok {i o : Nat} (hi : i < 6) (ho : o < 6) (hne : i ≠ o) {v : Int32} (h : ¬ (v < -9999 ∨ 9999 < v)) (mC : Nat → Int32) (T : Int32) : fX7_together (nI i) (nI o) v mC T = some (mC (6 * i + o), upd (upd mC (6 * i + o) v) (6 * o + i) v, 0) := by
  unfold fX7_together
  rw [isInput_eq, isInput_eq, bnd1_s, if_neg (in_n hi), if_neg (show ¬ (1 : Int32) = 0 by decide), bnd1_s, if_neg (in_n ho), if_neg (show ¬ (1 : Int32) = 0 by decide)]
  unfold BX7_together_19
  rw [if_neg (show ¬ (1 : Int32) = 0 by decide), if_neg (fun q => hne ((nI_eq (by omega) (by omega)).mp q)), isIn_eq, bnd1_s, if_neg h, if_neg (show ¬ (1 : Int32) = 0 by decide)]
  unfold BX7_together_54
  rw [holds_eq, bnd2_s, if_pos rfl, if_neg (show ¬ (1 : Int32) = 0 by decide)]
  simp only [ix6, gi_n (show 6 * i + o < 36 by omega) (show 36 < 2 ^ 31 by omega), gi_n (show 6 * o + i < 36 by omega) (show 36 < 2 ^ 31 by omega), clamp_n (show 6 * i + o < 2 ^ 31 by omega), clamp_n (show 6 * o + i < 2 ^ 31 by omega)]
theorem CRel_upd {CV : Nat → Nat → Int32} {mC : Nat → Int32} (h : CRel CV mC) {i o : Nat} (hi : i < 6) (ho : o < 6) (v : Int32) : CRel (upd2 (upd2 CV i o v) o i v) (upd (upd mC (6 * i + o) v) (6 * o + i) v) := fun a b ha hb => by
  obtain ⟨h1, h2⟩ := h a b ha hb
  simp only [upd2_at, upd_at]
  have e1 : (6 * a + b = 6 * o + i) ↔ (a = o ∧ b = i) := by omega
  have e2 : (6 * a + b = 6 * i + o) ↔ (a = i ∧ b = o) := by omega
  simp only [e1, e2]
  by_cases a1 : a = o <;> by_cases b1 : b = i <;> by_cases a2 : a = i <;> by_cases b2 : b = o <;> simp [a1, b1, a2, b2, h1] <;> first | exact h2 | (subst_vars; simp_all) | skip
/-! readings -/
def rsum (R : Nat → Int32) : Nat → Int32
  | 0 => 0
  | n + 1 => rsum R n + R n
def rsq (R : Nat → Int32) : Nat → Int32
  | 0 => 0
  | n + 1 => rsq R n + R n * R n
theorem rsum_congr {R Q : Nat → Int32} : ∀ {n : Nat}, (∀ k, k < n → R k = Q k) → rsum R n = rsum Q n
  | 0, _ => rfl
  | n + 1, h => by
    unfold rsum
    rw [rsum_congr (n := n) (fun k q => h k (by omega)), h n (by omega)]
theorem rsq_congr {R Q : Nat → Int32} : ∀ {n : Nat}, (∀ k, k < n → R k = Q k) → rsq R n = rsq Q n
  | 0, _ => rfl
  | n + 1, h => by
    unfold rsq
    rw [rsq_congr (n := n) (fun k q => h k (by omega)), h n (by omega)]
theorem rsum_small {R : Nat → Int32} : ∀ {n : Nat}, n ≤ 8 → (∀ k, k < n → smallR (R k)) → -(999 * (n : Int)) ≤ (rsum R n).toInt ∧ (rsum R n).toInt ≤ 999 * n
  | 0, _, _ => by
    show -(999 * ((0 : Nat) : Int)) ≤ (0 : Int32).toInt ∧ (0 : Int32).toInt ≤ 999 * ((0 : Nat) : Int)
    decide
  | n + 1, hn, h => by
    have ih := rsum_small (n := n) (by omega) (fun k q => h k (by omega))
    have s := h n (by omega)
    unfold smallR at s
    unfold rsum
    rw [Int32.toInt_add, Int.bmod_eq_of_le (by omega) (by omega)]
    omega
theorem c_read_loop (C : Nat → Int32) (RD : Nat → Nat → Int32) {i n : Nat} (hi : i < 6) (hn : n ≤ 8) (E : Int32 → Int32 → Int32 → (Nat → Int32) → (Nat → Int32) → Option ((Nat → Int32) × (Nat → Int32))) (e v : Nat → Int32) :
    ∀ (f k : Nat), k ≤ n → n - k < f → LX4_reckonReadings_15 C RD (nI i) E f (nI n) (rsum (RD i) k) (rsq (RD i) k) (nI k) e v = E (nI n) (rsum (RD i) n) (rsq (RD i) n) e v
  | 0, k, _, q => absurd q (Nat.not_lt_zero _)
  | f + 1, k, hk, q => by
    rw [LX4_reckonReadings_15]
    by_cases hc : n ≤ k
    · have : k = n := by omega
      subst this
      rw [if_pos ((nI_leI (by omega) (by omega)).mpr hc)]
    · rw [if_neg (fun q => hc ((nI_leI (by omega) (by omega)).mp q)), gi_n hi (by omega), gi_n (show k < 8 by omega) (by omega), clamp_n (by omega), clamp_n (by omega), nI_1]
      exact c_read_loop C RD hi hn E e v f (k + 1) (by omega) (by omega)
theorem ix8i (i k : Nat) : (8 : Int32) * nI i + nI k = nI (8 * i + k) := by rw [ix8, nI_add]
theorem m_read_loop (v2 : Int32) {i n : Nat} (hi : i < 6) (hn : n ≤ 8) (E : Int32 → Int32 → Int32 → (Nat → Int32) → (Nat → Int32) → (Nat → Int32) → (Nat → Int32) → (Nat → Int32) → (Nat → Int32) → Int32 → Option (Int32 × (Nat → Int32) × (Nat → Int32) × (Nat → Int32) × (Nat → Int32) × (Nat → Int32) × (Nat → Int32) × Int32)) (mE mS mW mM mR mV : Nat → Int32) (T : Int32) :
    ∀ (f k : Nat), k ≤ n → n - k < f → LX7_read_113 (nI i) v2 E f (nI n) (rsum (fun k => mR (8 * i + k)) k) (rsq (fun k => mR (8 * i + k)) k) (nI k) mE mS mW mM mR mV T = E (nI n) (rsum (fun k => mR (8 * i + k)) n) (rsq (fun k => mR (8 * i + k)) n) mE mS mW mM mR mV T
  | 0, k, _, q => absurd q (Nat.not_lt_zero _)
  | f + 1, k, hk, q => by
    rw [LX7_read_113]
    by_cases hc : n ≤ k
    · have : k = n := by omega
      subst this
      rw [if_pos ((nI_leI (by omega) (by omega)).mpr hc)]
    · rw [if_neg (fun q => hc ((nI_leI (by omega) (by omega)).mp q)), ix8i, gi_n (show 8 * i + k < 48 by omega) (by omega), clamp_n (by omega), nI_1]
      exact m_read_loop v2 hi hn E mE mS mW mM mR mV T f (k + 1) (by omega) (by omega)
theorem xor_sign (s t : Int32) : (0 ≤ s ^^^ t) ↔ (s.toInt < 0 ↔ t.toInt < 0) := by
  have e : decide ((s ^^^ t).toInt < 0) = (decide (s.toInt < 0) ^^ decide (t.toInt < 0)) := by
    show decide ((s ^^^ t).toBitVec.toInt < 0) = (decide (s.toBitVec.toInt < 0) ^^ decide (t.toBitVec.toInt < 0))
    rw [← BitVec.msb_eq_toInt, ← BitVec.msb_eq_toInt, ← BitVec.msb_eq_toInt, Int32.toBitVec_xor, BitVec.msb_xor]
  rw [le_i, show (0 : Int32).toInt = 0 by decide]
  by_cases a : s.toInt < 0 <;> by_cases b : t.toInt < 0 <;> simp [a, b] at e ⊢ <;> omega
theorem ceil_of {n a : Nat} (h1 : 1 ≤ n) (h8 : n ≤ 8) : (a / n * n = a → (n - 1 + a) / n = a / n) ∧ (¬ a / n * n = a → (n - 1 + a) / n = a / n + 1) := by
  have : n = 1 ∨ n = 2 ∨ n = 3 ∨ n = 4 ∨ n = 5 ∨ n = 6 ∨ n = 7 ∨ n = 8 := by omega
  rcases this with rfl | rfl | rfl | rfl | rfl | rfl | rfl | rfl <;> constructor <;> intro h <;> omega
theorem floor_same {s : Int32} {n : Nat} (h1 : 1 ≤ n) (h8 : n ≤ 8) (hs : -7992 ≤ s.toInt ∧ s.toInt ≤ 7992) : ∃ q, fJ9_floorDiv_7cf53 s (nI n) = some q ∧ fX7_floor s (nI n) = some q := by
  have tn : (nI n).toInt = n := nI_toInt (by omega)
  have nz : ¬ nI n = 0 := nI_ne0 (by omega) (by omega)
  have z : (0 : Int32).toInt = 0 := by decide
  unfold fJ9_floorDiv_7cf53 fX7_floor
  simp only [gz_ok nz]
  by_cases neg : s < 0
  · have neg2 := neg
    rw [lt_i, z] at neg2
    rw [if_pos neg, if_neg (fun q => by have := ((xor_sign _ _).mp q).mp neg2; omega)]
    obtain ⟨a, ha⟩ : ∃ a : Nat, s.toInt = -(a : Int) := ⟨(-s.toInt).toNat, by omega⟩
    obtain ⟨k1, k2⟩ := ceil_of (a := a) h1 h8
    have cast : ((a : Int) / (n : Int)) = ((a / n : Nat) : Int) := (Int.natCast_ediv _ _).symm
    have le1 : a / n ≤ a := Nat.div_le_self _ _
    have le := Nat.div_mul_le_self a n
    have le3 : (n - 1 + a) / n ≤ n - 1 + a := Nat.div_le_self _ _
    have r : (nI n - 1) - s = nI (n - 1 + a) := Int32.toInt_inj.mp (by
      rw [Int32.toInt_sub, Int32.toInt_sub, tn, nI_toInt (by omega), ha, show (1 : Int32).toInt = 1 by decide, Int.bmod_eq_of_le (n := (n : Int) - 1) (by omega) (by omega), Int.bmod_eq_of_le (by omega) (by omega)]
      omega)
    have rd : ((nI n - 1) - s) / nI n = nI ((n - 1 + a) / n) := by rw [r, pk_div (by omega) (by omega) (by omega)]
    have d0 : (s / nI n).toInt = (-((a : Int) / (n : Int))).bmod (2 ^ 32) := by
      rw [Int32.toInt_div, ha, tn, Int.neg_tdiv, Int.tdiv_eq_ediv_of_nonneg (by omega)]
    rw [cast] at d0
    generalize (n - 1 + a) / n = P at k1 k2 le3 rd
    generalize a / n = Q at k1 k2 le1 le d0
    have d : (s / nI n).toInt = -(Q : Int) := by rw [d0, Int.bmod_eq_of_le (by omega) (by omega)]
    have m0 : ((s / nI n) * nI n).toInt = (-((Q * n : Nat) : Int)).bmod (2 ^ 32) := by
      have e : -(Q : Int) * (n : Int) = -((Q * n : Nat) : Int) := by rw [Int.neg_mul, ← Int.natCast_mul]
      rw [Int32.toInt_mul, d, tn, e]
    generalize Q * n = M at k1 k2 le m0
    have m : ((s / nI n) * nI n).toInt = -(M : Int) := by rw [m0, Int.bmod_eq_of_le (by omega) (by omega)]
    have rr : (-(((nI n - 1) - s) / nI n)).toInt = -(P : Int) := by
      rw [rd, Int32.toInt_neg, nI_toInt (by omega), Int.bmod_eq_of_le (by omega) (by omega)]
    by_cases e : s / nI n * nI n = s
    · rw [if_pos e]
      refine ⟨_, rfl, congrArg some (Int32.toInt_inj.mp ?_)⟩
      have := congrArg Int32.toInt e
      rw [m, ha] at this
      rw [rr, d, k1 (by omega)]
    · rw [if_neg e]
      refine ⟨_, rfl, congrArg some (Int32.toInt_inj.mp ?_)⟩
      have ne : ¬ M = a := fun y => e (Int32.toInt_inj.mp (by rw [m, ha, y]))
      rw [rr, Int32.toInt_sub, d, k2 ne, show (1 : Int32).toInt = 1 by decide, Int.bmod_eq_of_le (by omega) (by omega)]
      omega
  · have neg2 := neg
    rw [lt_i, z] at neg2
    rw [if_neg neg, if_pos ((xor_sign _ _).mpr ⟨fun q => absurd q neg2, fun q => by omega⟩)]
    exact ⟨_, rfl, rfl⟩
theorem m_read_47 {i : Nat} (hi : i < 6) {v : Int32} {c : Nat} (hc : c ≤ 7) {mM : Nat → Int32} (hM : mM i = nI c) (mE mS mW mR mV : Nat → Int32) (T : Int32) {q : Int32}
    (hq : fX7_floor (rsum (fun k => upd mR (8 * i + c) v (8 * i + k)) (c + 1)) (nI (c + 1)) = some q) :
    BX7_read_47 (nI i) v 0 mE mS mW mM mR mV T = some (if c = 0 then 0 else (nI (c + 1) * rsq (fun k => upd mR (8 * i + c) v (8 * i + k)) (c + 1) - rsum (fun k => upd mR (8 * i + c) v (8 * i + k)) (c + 1) * rsum (fun k => upd mR (8 * i + c) v (8 * i + k)) (c + 1)) / ((nI (c + 1) * nI (c + 1)) * (nI (c + 1) - 1)), upd mE i q, upd mS i 4, upd mW i 0, upd mM i (nI (c + 1)), upd mR (8 * i + c) v, upd mV i (if c = 0 then 0 else (nI (c + 1) * rsq (fun k => upd mR (8 * i + c) v (8 * i + k)) (c + 1) - rsum (fun k => upd mR (8 * i + c) v (8 * i + k)) (c + 1) * rsum (fun k => upd mR (8 * i + c) v (8 * i + k)) (c + 1)) / ((nI (c + 1) * nI (c + 1)) * (nI (c + 1) - 1))), 0) := by
  unfold BX7_read_47
  rw [holds_eq, bnd2_s, if_pos rfl, if_neg (show ¬ (1 : Int32) = 0 by decide)]
  simp only [gi_n hi (show 6 < 2 ^ 31 by omega), clamp_n (show i < 2 ^ 31 by omega), hM, ix8i, gi_n (show 8 * i + c < 48 by omega) (show 48 < 2 ^ 31 by omega), clamp_n (show 8 * i + c < 2 ^ 31 by omega), nI_1]
  rw [show upd mM i (nI (c + 1)) i = nI (c + 1) from if_pos rfl]
  refine Eq.trans (m_read_loop v hi (show c + 1 ≤ 8 by omega) _ mE (upd mS i 4) (upd mW i 0) (upd mM i (nI (c + 1))) (upd mR (8 * i + c) v) mV 0 1000 0 (by omega) (by omega)) ?_
  rw [hq, bnd1_s]
  unfold BX7_read_207
  simp only [gi_n hi (show 6 < 2 ^ 31 by omega), clamp_n (show i < 2 ^ 31 by omega), upd_at, if_true]
  by_cases e : c = 0
  · subst e
    rw [if_pos (by decide)]
    simp
  · have h1 : ¬ nI (c + 1) = 1 := fun q => e (by have := (nI_eq (b := 1) (by omega) (by omega)).mp q; omega)
    have h2 : ¬ nI (c + 1) * nI (c + 1) * (nI (c + 1) - 1) = 0 := by
      rw [nI_pred, pk_mul, pk_mul]
      have : 0 < (c + 1) * (c + 1) * c := Nat.mul_pos (Nat.mul_pos (by omega) (by omega)) (by omega)
      have l : (c + 1) * (c + 1) * c ≤ 8 * 8 * 7 := Nat.mul_le_mul (Nat.mul_le_mul (by omega) (by omega)) (by omega)
      exact nI_ne0 this (by omega)
    rw [if_neg h1, gz_ok h2, if_neg e]
theorem c_read {i : Nat} (hi : i < 6) {v : Int32} {c : Nat} (hc : c ≤ 7) {C : Nat → Int32} (hC : C i = nI c) (E V S : Nat → Int32) (RD : Nat → Nat → Int32) {q : Int32}
    (hq : fJ9_floorDiv_7cf53 (rsum (upd2 RD i c v i) (c + 1)) (nI (c + 1)) = some q) :
    fX4_addReading (nI i) v E V S C RD = some (if c = 0 then 0 else (nI (c + 1) * rsq (upd2 RD i c v i) (c + 1) - rsum (upd2 RD i c v i) (c + 1) * rsum (upd2 RD i c v i) (c + 1)) / ((nI (c + 1) * nI (c + 1)) * (nI (c + 1) - 1)), upd E i q, upd V i (if c = 0 then 0 else (nI (c + 1) * rsq (upd2 RD i c v i) (c + 1) - rsum (upd2 RD i c v i) (c + 1) * rsum (upd2 RD i c v i) (c + 1)) / ((nI (c + 1) * nI (c + 1)) * (nI (c + 1) - 1))), upd S i 4, upd C i (nI (c + 1)), upd2 RD i c v) := by
  unfold fX4_addReading
  simp only [gi_n hi (show 6 < 2 ^ 31 by omega), clamp_n (show i < 2 ^ 31 by omega), hC, gi_n (show c < 8 by omega) (show 8 < 2 ^ 31 by omega), clamp_n (show c < 2 ^ 31 by omega), nI_1]
  rw [if_neg (show ¬ (8 : Int32) ≤ nI c from fun y => absurd ((nI_leI (a := 8) (by omega) (by omega)).mp y) (by omega))]
  unfold BX4_addReading_31 fX4_reckonReadings
  simp only [gi_n hi (show 6 < 2 ^ 31 by omega), clamp_n (show i < 2 ^ 31 by omega)]
  rw [show upd C i (nI (c + 1)) i = nI (c + 1) from if_pos rfl]
  erw [c_read_loop (upd C i (nI (c + 1))) (upd2 RD i c v) hi (show c + 1 ≤ 8 by omega) _ E V 1000 0 (by omega) (by omega)]
  rw [if_neg (nI_nle (by omega) (by omega)), hq, bnd1_s]
  unfold BX4_reckonReadings_71
  simp only [gi_n hi (show 6 < 2 ^ 31 by omega), clamp_n (show i < 2 ^ 31 by omega)]
  by_cases e : c = 0
  · subst e
    rw [if_pos (by decide), bnd2_s]
    simp [upd_at]
  · have h1 : ¬ nI (c + 1) ≤ 1 := fun q => e (by have := (nI_leI (b := 1) (by omega) (by omega)).mp q; omega)
    have h2 : ¬ nI (c + 1) * nI (c + 1) * (nI (c + 1) - 1) = 0 := by
      rw [nI_pred, pk_mul, pk_mul]
      have : 0 < (c + 1) * (c + 1) * c := Nat.mul_pos (Nat.mul_pos (by omega) (by omega)) (by omega)
      have l : (c + 1) * (c + 1) * c ≤ 8 * 8 * 7 := Nat.mul_le_mul (Nat.mul_le_mul (by omega) (by omega)) (by omega)
      exact nI_ne0 this (by omega)
    rw [if_neg h1, gz_ok h2, bnd2_s, if_neg e, upd_at, if_pos rfl]
theorem read_same {i : Nat} (hi : i < 6) {v : Int32} (hv : smallR v) {c : Nat} (hc : c ≤ 7) {C mM mR : Nat → Int32} {RD : Nat → Nat → Int32} (hC : C i = nI c) (hM : mM i = nI c) (hR : ∀ k, k < c → RD i k = mR (8 * i + k) ∧ smallR (RD i k)) (E V S mE mS mW mV : Nat → Int32) (T : Int32) :
    ∃ q a, fX4_addReading (nI i) v E V S C RD = some (a, upd E i q, upd V i a, upd S i 4, upd C i (nI (c + 1)), upd2 RD i c v) ∧
      BX7_read_47 (nI i) v 0 mE mS mW mM mR mV T = some (a, upd mE i q, upd mS i 4, upd mW i 0, upd mM i (nI (c + 1)), upd mR (8 * i + c) v, upd mV i a, 0) := by
  have same : ∀ k, k < c + 1 → upd2 RD i c v i k = (fun k => upd mR (8 * i + c) v (8 * i + k)) k := fun k hk => by
    show _ = upd mR (8 * i + c) v (8 * i + k)
    rw [upd2_at, if_pos rfl, upd_at]
    by_cases e : k = c
    · rw [if_pos e, if_pos (by omega)]
    · rw [if_neg e, if_neg (by omega)]
      exact (hR k (by omega)).1
  have sm : ∀ k, k < c + 1 → smallR (upd2 RD i c v i k) := fun k hk => by
    rw [upd2_at, if_pos rfl]
    by_cases e : k = c
    · rw [if_pos e]; exact hv
    · rw [if_neg e]; exact (hR k (by omega)).2
  have b := rsum_small (show c + 1 ≤ 8 by omega) sm
  obtain ⟨q, q1, q2⟩ := floor_same (show 1 ≤ c + 1 by omega) (show c + 1 ≤ 8 by omega) (s := rsum (upd2 RD i c v i) (c + 1)) (by omega)
  refine ⟨q, _, c_read hi hc hC E V S RD q1, ?_⟩
  rw [rsum_congr same] at q2
  rw [m_read_47 hi hc hM mE mS mW mR mV T q2, rsum_congr same, rsq_congr same]
