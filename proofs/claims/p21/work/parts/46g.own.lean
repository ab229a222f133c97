/-! ===== what the class alone does: the doubt, the factor, the table, ranks, the line, draws, readings ===== -/
theorem c_root_loop {v : Nat} (hv : v < 2 ^ 63) (E1 : Int64 → Option Int64) : ∀ (f n r : Nat), n ≤ 32 → n < f → r * r ≤ v → v < (r + 2 ^ n) * (r + 2 ^ n) →
    ∃ q, q * q ≤ v ∧ v < (q + 1) * (q + 1) ∧ LX0_doubt_18 (lN v) E1 f (lN r) (hd n) = E1 (lN q)
  | 0, n, r, _, q, _, _ => absurd q (Nat.not_lt_zero _)
  | f + 1, 0, r, _, _, hr, hu => by
    refine ⟨r, hr, hu, ?_⟩
    rw [LX0_doubt_18, if_pos (by decide)]
  | f + 1, b + 1, r, hn, hf, hr, hu => by
    have eb : hd (b + 1) = nI b := pk_m1 b
    have hb : 2 ^ b ≤ 2 ^ 31 := Nat.pow_le_pow_right (by decide) (by omega)
    have h0 : 0 < 2 ^ b := Nat.two_pow_pos b
    have hs := sq_small hr hv
    have ht : r + 2 ^ b < 2 ^ 33 := by omega
    have e1 : lN r + jlshl 1 (nI b) = lN (r + 2 ^ b) := by rw [shl_1 b (by omega), lN_add]
    have en : nI b + (-1) = hd b := rfl
    have hu2 : v < (r + 2 ^ b + 2 ^ b) * (r + 2 ^ b + 2 ^ b) := by
      rw [show r + 2 ^ b + 2 ^ b = r + 2 ^ (b + 1) by rw [Nat.pow_succ]; omega]
      exact hu
    rw [LX0_doubt_18, eb, if_neg (nI_pos (by omega))]
    simp only [e1, en]
    by_cases hk : (r + 2 ^ b) * (r + 2 ^ b) ≤ v
    · have hs2 := sq_small hk hv
      obtain ⟨q, q1, q2, q3⟩ := c_root_loop hv E1 f b (r + 2 ^ b) (by omega) (by omega) hk hu2
      refine ⟨q, q1, q2, ?_⟩
      rw [if_neg (fun y => ?_), if_neg (fun y => ?_)]
      · exact q3
      · rw [lg_cmp_gt, lN_mul, pk_lLT hv (by omega)] at y
        omega
      · rw [lg_cmp_gt] at y
        have := (pk_lLT (a := 3037000499) (b := r + 2 ^ b) (by omega) (by omega)).mp y
        omega
    · obtain ⟨q, q1, q2, q3⟩ := c_root_loop hv E1 f b r (by omega) (by omega) hr (by omega)
      refine ⟨q, q1, q2, ?_⟩
      by_cases hg : r + 2 ^ b ≤ 3037000499
      · have := Nat.mul_le_mul hg hg
        rw [if_neg (fun y => ?_), if_pos ?_]
        · exact q3
        · rw [lg_cmp_gt, lN_mul, pk_lLT hv (by omega)]
          omega
        · rw [lg_cmp_gt] at y
          have := (pk_lLT (a := 3037000499) (b := r + 2 ^ b) (by omega) (by omega)).mp y
          omega
      · rw [if_pos ?_]
        · exact q3
        · rw [lg_cmp_gt]
          exact (pk_lLT (a := 3037000499) (b := r + 2 ^ b) (by omega) (by omega)).mpr (by omega)
def dbt (V : Int64) : Int64 := match fX0_doubt V with
  | some r => r
  | none => 0
theorem c_doubt (V : Int64) : fX0_doubt V = some (dbt V) ∧ (V < 0 → dbt V = -1) ∧ (¬ V < 0 → ∃ v q : Nat, v < 2 ^ 63 ∧ V = lN v ∧ dbt V = lN q ∧ q * q ≤ v ∧ v < (q + 1) * (q + 1)) := by
  have key : ∀ r, fX0_doubt V = some r → dbt V = r := fun r e => by
    unfold dbt
    rw [e]
  by_cases h : V < 0
  · have e : fX0_doubt V = some (-1) := by
      unfold fX0_doubt
      rw [if_neg (fun y => by rw [lg_cmp_ge] at y; exact lg_lt_not_le h y)]
    rw [key _ e]
    exact ⟨e, fun _ => rfl, fun q => absurd h q⟩
  · obtain ⟨v, hv, e⟩ := pk_lOf h
    subst e
    obtain ⟨q, q1, q2, q3⟩ := c_root_loop hv (fun v1 => some v1) 1000 32 0 (by omega) (by omega) (by omega) (by omega)
    have e : fX0_doubt (lN v) = some (lN q) := by
      unfold fX0_doubt
      rw [if_pos ?_]
      · exact q3
      · rw [lg_cmp_ge]
        rw [Int64.lt_iff_toInt_lt] at h
        rw [Int64.le_iff_toInt_le]
        omega
    rw [key _ e]
    exact ⟨e, fun y => absurd y h, fun _ => ⟨v, q, hv, rfl, rfl, q1, q2⟩⟩
/-- a table in order -/
def okTb (n : Nat) (D F : Nat → Int32) : Prop := n ≤ 12 ∧ (∀ k, k < n → 0 < D k ∧ D k ≤ 9999 ∧ -1 ≤ F k ∧ F k ≤ 999) ∧ ∀ j k, j < n → k < n → D j = D k → j = k
theorem c_fac_loop {n : Nat} {D F : Nat → Int32} (h : okTb n D F) (most : Int64) : ∀ (f j : Nat) (g fc : Int32), j ≤ n → n - j < f → (-1 ≤ fc ∧ fc ≤ 999) → ∃ r, LX2_factorUpTo_8 D F (nI n) most (fun v4 => some v4) f g fc (nI j) = some r ∧ (-1 ≤ r ∧ r ≤ 999)
  | 0, j, _, _, _, q, _ => absurd q (Nat.not_lt_zero _)
  | f + 1, j, g, fc, hj, q, hI => by
    have h12 := h.1
    rw [LX2_factorUpTo_8]
    by_cases hc : n ≤ j
    · rw [if_pos ((nI_leI (by omega) (by omega)).mpr hc)]
      exact ⟨fc, rfl, hI⟩
    · have hjn : j < n := by omega
      obtain ⟨e1, e2, e3, e4⟩ := h.2.1 j hjn
      rw [if_neg (fun q => hc ((nI_leI (by omega) (by omega)).mp q))]
      simp only [gi_n (show j < 12 by omega) (show 12 < 2 ^ 31 by omega), clamp_n (show j < 2 ^ 31 by omega), nI_1]
      have take := c_fac_loop h most f (j + 1) (D j) (F j) (by omega) (by omega) ⟨e3, e4⟩
      have skip := c_fac_loop h most f (j + 1) g fc (by omega) (by omega) hI
      by_cases c1 : 0 < lg_cmp (D j).toInt64 most
      · rw [if_pos c1]
        exact skip
      · rw [if_neg c1]
        by_cases c2 : D j ≤ g
        · rw [if_pos c2]
          exact skip
        · rw [if_neg c2]
          exact take
theorem c_factor {n : Nat} {D F : Nat → Int32} (h : okTb n D F) (s : Int64) : ∃ r, fX0_factor s D F (nI n) = some r ∧ (-1 ≤ r ∧ r ≤ 999) := by
  have h12 := h.1
  unfold fX0_factor
  by_cases e : s = 0
  · obtain ⟨r, r1, r2⟩ := c_fac_loop h 9999 1000 0 0 (-1) (by omega) (by omega) (by decide)
    refine ⟨r, ?_, r2⟩
    have r1 : fX2_factorUpTo 9999 D F (nI n) = some r := r1
    rw [if_pos ((lg_cmp_eq s 0).mpr e), r1, bnd1_s]
  · obtain ⟨r, r1, r2⟩ := c_fac_loop h (degAns s) 1000 0 0 (-1) (by omega) (by omega) (by decide)
    refine ⟨r, ?_, r2⟩
    have r1 : fX2_factorUpTo (degAns s) D F (nI n) = some r := r1
    rw [if_neg (fun q => e ((lg_cmp_eq s 0).mp q)), c_degrees, bnd1_s, r1, bnd1_s]
/-! the table -/
theorem c_tab_out {n : Nat} {D F : Nat → Int32} (h : okTb n D F) (v : Int32) : ∃ (n' : Nat) (D' F' : Nat → Int32), fX2_remove v D F (nI n) = some (D', F', nI n') ∧ okTb n' D' F' ∧ n' ≤ n ∧ n ≤ n' + 1 := by
  have h12 := h.1
  obtain ⟨k, k1, k2, k3, k4⟩ := c_find h.1 D v
  unfold fX2_remove
  rw [k2, bnd1_s]
  by_cases c : k < n
  · obtain ⟨n', rfl⟩ : ∃ n', n = n' + 1 := ⟨n - 1, by omega⟩
    rw [if_neg (fun q : nI (n' + 1) ≤ nI k => absurd ((nI_leI (by omega) (by omega)).mp q) (by omega))]
    simp only [nI_pred, gi_n (show k < 12 by omega) (show 12 < 2 ^ 31 by omega), gi_n (show n' < 12 by omega) (show 12 < 2 ^ 31 by omega), clamp_n (show k < 2 ^ 31 by omega), clamp_n (show n' < 2 ^ 31 by omega)]
    refine ⟨n', _, _, rfl, ⟨by omega, fun j hj => ?_, fun i j hi hj hij => ?_⟩, by omega, by omega⟩
    · simp only [upd_at]
      by_cases e : j = k
      · simp only [e, if_true]
        exact h.2.1 n' (by omega)
      · simp only [e, if_false]
        exact h.2.1 j (by omega)
    · simp only [upd_at] at hij
      by_cases e1 : i = k
      · by_cases e2 : j = k
        · omega
        · rw [if_pos e1, if_neg e2] at hij
          have := h.2.2 n' j (by omega) (by omega) hij
          omega
      · by_cases e2 : j = k
        · rw [if_neg e1, if_pos e2] at hij
          have := h.2.2 i n' (by omega) (by omega) hij
          omega
        · rw [if_neg e1, if_neg e2] at hij
          exact h.2.2 i j (by omega) (by omega) hij
  · have : k = n := by omega
    subst this
    rw [if_pos (show nI k ≤ nI k from (nI_leI (by omega) (by omega)).mpr (Nat.le_refl _))]
    exact ⟨k, D, F, rfl, h, by omega, by omega⟩
theorem c_tab_in {n : Nat} {D F : Nat → Int32} (h : okTb n D F) {v v2 : Int32} (hb : ¬ tabBad v v2) :
    (∃ (n' : Nat) (D' F' : Nat → Int32), fX2_hasRoomFor v D (nI n) = some 1 ∧ fX2_put v v2 D F (nI n) = some (D', F', nI n') ∧ okTb n' D' F' ∧ n ≤ n' ∧ n' ≤ n + 1) ∨ (fX2_hasRoomFor v D (nI n) = some 0 ∧ n = 12) := by
  have h12 := h.1
  obtain ⟨k, k1, k2, k3, k4⟩ := c_find h.1 D v
  have v1 : 0 < v := by
    have : ¬ v < 1 := fun y => hb (Or.inl y)
    rw [lt_i] at this ⊢
    have z : (0 : Int32).toInt = 0 := by decide
    have z1 : (1 : Int32).toInt = 1 := by decide
    omega
  have v9 : v ≤ 9999 := by
    have : ¬ 9999 < v := fun y => hb (Or.inr (Or.inl y))
    rw [lt_i] at this
    rw [le_i]
    omega
  have w1 : -1 ≤ v2 := by
    have : ¬ v2 < -1 := fun y => hb (Or.inr (Or.inr (Or.inl y)))
    rw [lt_i] at this
    rw [le_i]
    omega
  have w9 : v2 ≤ 999 := by
    have : ¬ 999 < v2 := fun y => hb (Or.inr (Or.inr (Or.inr y)))
    rw [lt_i] at this
    rw [le_i]
    omega
  unfold fX2_hasRoomFor fX2_put
  rw [k2, bnd1_s, bnd1_s]
  by_cases c : k < n
  · left
    have q12 : ¬ (12 : Int32) ≤ nI k := fun q => absurd ((nI_leI (a := 12) (by omega) (by omega)).mp q) (by omega)
    rw [if_neg q12, if_neg q12]
    simp only [nI_1, gi_n (show k < 12 by omega) (show 12 < 2 ^ 31 by omega), clamp_n (show k < 2 ^ 31 by omega)]
    rw [if_neg (fun q => absurd ((nI_ltI (by omega) (by omega)).mp q) (by omega))]
    refine ⟨n, _, _, trivial, rfl, ⟨h12, fun j hj => ?_, fun i j hi hj hij => ?_⟩, by omega, by omega⟩
    · simp only [upd_at]
      by_cases e : j = k
      · simp only [e, if_true]
        exact ⟨v1, v9, w1, w9⟩
      · simp only [e, if_false]
        exact h.2.1 j (by omega)
    · simp only [upd_at] at hij
      have d := k3 c
      have cl : ∀ i, (if i = k then v else D i) = D i := fun i => by
        by_cases e : i = k
        · rw [if_pos e, e, d]
        · rw [if_neg e]
      rw [cl, cl] at hij
      exact h.2.2 i j hi hj hij
  · have : k = n := by omega
    subst this
    by_cases full : k = 12
    · right
      have q12 : (12 : Int32) ≤ nI k := (nI_leI (a := 12) (by omega) (by omega)).mpr (by omega)
      rw [if_pos q12]
      exact ⟨rfl, full⟩
    · left
      have q12 : ¬ (12 : Int32) ≤ nI k := fun q => absurd ((nI_leI (a := 12) (by omega) (by omega)).mp q) (by omega)
      rw [if_neg q12, if_neg q12]
      simp only [nI_1, gi_n (show k < 12 by omega) (show 12 < 2 ^ 31 by omega), clamp_n (show k < 2 ^ 31 by omega)]
      rw [if_pos ((nI_ltI (by omega) (by omega)).mpr (by omega))]
      refine ⟨k + 1, _, _, trivial, rfl, ⟨by omega, fun j hj => ?_, fun i j hi hj hij => ?_⟩, by omega, by omega⟩
      · simp only [upd_at]
        by_cases e : j = k
        · simp only [e, if_true]
          exact ⟨v1, v9, w1, w9⟩
        · simp only [e, if_false]
          exact h.2.1 j (by omega)
      · simp only [upd_at] at hij
        by_cases e1 : i = k
        · by_cases e2 : j = k
          · omega
          · rw [if_pos e1, if_neg e2] at hij
            exact absurd hij.symm (k4 j (by omega))
        · by_cases e2 : j = k
          · rw [if_neg e1, if_pos e2] at hij
            exact absurd hij (k4 i (by omega))
          · rw [if_neg e1, if_neg e2] at hij
            exact h.2.2 i j (by omega) (by omega) hij
/-! ranks -/
theorem c_at_loop {P : Nat → Int64} {p : Nat} (hp : p ≤ 6) : ∀ (f i : Nat), i ≤ 6 → 6 - i < f → (∀ a, a < i → rankTo P a 6 ≠ p) →
    ∃ r, LX0_inputAtRank_2 P (nI p) (fun v2 => some v2) (some (-1)) f (nI i) = some r ∧ ((∃ j, j < 6 ∧ r = nI j ∧ rankTo P j 6 = p) ∨ (r = -1 ∧ ∀ j, j < 6 → rankTo P j 6 ≠ p))
  | 0, i, _, q, _ => absurd q (Nat.not_lt_zero _)
  | f + 1, i, hi, q, hI => by
    rw [LX0_inputAtRank_2]
    by_cases hc : 6 ≤ i
    · have : i = 6 := by omega
      subst this
      rw [if_pos (by decide)]
      exact ⟨_, rfl, Or.inr ⟨rfl, hI⟩⟩
    · have hq : ¬ (6 : Int32) ≤ nI i := fun q => hc ((nI_leI (a := 6) (by omega) (by omega)).mp q)
      have rl := rankTo_le P i 6
      rw [if_neg hq, c_rankOf P (by omega), bnd1_s]
      by_cases c : rankTo P i 6 = p
      · rw [if_pos (by rw [c])]
        exact ⟨nI i, rfl, Or.inl ⟨i, by omega, rfl, c⟩⟩
      · rw [if_neg (fun y => c ((nI_eq (by omega) (by omega)).mp y)), nI_1]
        exact c_at_loop hp f (i + 1) (by omega) (by omega) (fun a ha => by
          by_cases e : a = i
          · rw [e]; exact c
          · exact hI a (by omega))
theorem c_atRank (P : Nat → Int64) {p : Nat} (hp : p ≤ 6) : ∃ r, fX0_inputAtRank (nI p) P = some r ∧ ((∃ j, j < 6 ∧ r = nI j ∧ rankTo P j 6 = p) ∨ (r = -1 ∧ ∀ j, j < 6 → rankTo P j 6 ≠ p)) :=
  c_at_loop hp 1000 0 (by omega) (by omega) (fun _ h => absurd h (Nat.not_lt_zero _))
/-! the line -/
/-- the codes of the line behind signs that are typed -/
def cdAp (ln : Nat) (cd : Nat → Nat) (n c : Nat) : Nat → Nat := fun a => if a < ln then cd a else if a < ln + c then byteN n (a - ln) else 0
def LnK (ln : Nat) (cd : Nat → Nat) (L : Nat → Int32) : Prop := ln ≤ 60 ∧ (∀ a, a < ln → 32 ≤ cd a ∧ cd a ≤ 126 ∧ L a = nI (cd a)) ∧ ∀ a, ln ≤ a → cd a = 0
theorem c_app_loop {n c : Nat} (hn : n < 2 ^ 64) (hc : c ≤ 8) {len : Nat} (hlen : len + c ≤ 60) (cd : Nat → Nat) : ∀ (f j : Nat) (L : Nat → Int32), j ≤ c → c - j < f → (∀ a, a < len + j → L a = nI (cdAp len cd n c a)) →
    ∃ L2, LX5_append_3 (lN n) (nI c) (fun L l => some (L, l)) f (nI j) L (nI (len + j)) = some (L2, nI (len + c)) ∧ ∀ a, a < len + c → L2 a = nI (cdAp len cd n c a)
  | 0, j, _, _, q, _ => absurd q (Nat.not_lt_zero _)
  | f + 1, j, L, hj, q, hL => by
    rw [LX5_append_3]
    by_cases e : c ≤ j
    · have : j = c := by omega
      subst this
      rw [if_pos ((nI_leI (by omega) (by omega)).mpr (Nat.le_refl _))]
      exact ⟨L, rfl, hL⟩
    · have hq : ¬ nI c ≤ nI j := fun q => e ((nI_leI (by omega) (by omega)).mp q)
      have hb := byteN_lt n j
      rw [if_neg hq, if_neg (fun q : (60 : Int32) ≤ nI (len + j) => absurd ((nI_leI (a := 60) (by omega) (by omega)).mp q) (by omega)), c_signIn hn (by omega), bnd1_s, char_of hb]
      rw [gi_n (show len + j < 60 by omega) (by omega), nI_1, nI_1, clamp_n (by omega)]
      refine c_app_loop hn hc hlen cd f (j + 1) _ (by omega) (by omega) (fun a ha => ?_)
      rw [upd_at]
      by_cases y : a = len + j
      · rw [if_pos y]
        unfold cdAp
        rw [if_neg (by omega), if_pos (by omega), y, show len + j - len = j by omega]
      · rw [if_neg y]
        exact hL a (by omega)
theorem c_type {n c : Nat} (hn : n < 2 ^ 64) (hc : fstZ n c) (hk : okSigns n c) {ln : Nat} {cd : Nat → Nat} {L : Nat → Int32} (h : LnK ln cd L) (hl : ln + c ≤ 60) :
    ∃ L2, fX6_type (lN n) L (nI ln) = some (nI (ln + c), L2, nI (ln + c)) ∧ LnK (ln + c) (cdAp ln cd n c) L2 := by
  have c1 := hc.1
  have e1 : fX5_countSigns (lN n) = some (nI c) := by
    rcases c_countSigns hn hc with ⟨-, e⟩ | ⟨e, -⟩
    · exact e
    · exact absurd hk e
  obtain ⟨L2, e2, e3⟩ := c_app_loop hn c1 hl cd 1000 0 L (by omega) (by omega) (fun a ha => by
    unfold cdAp
    rw [if_pos (by omega)]
    exact (h.2.1 a (by omega)).2.2)
  have e2 : fX5_append (lN n) (nI c) L (nI ln) = some (L2, nI (ln + c)) := e2
  refine ⟨L2, ?_, hl, fun a ha => ?_, fun a ha => ?_⟩
  · unfold fX6_type
    rw [e1, bnd1_s, if_neg (nI_neM1 (by omega)), nI_add, if_pos (show nI (ln + c) ≤ 60 from (nI_leI (b := 60) (by omega) (by omega)).mpr hl), e2, bnd2_s]
  · refine ⟨?_, ?_, e3 a ha⟩
    · unfold cdAp
      by_cases y : a < ln
      · rw [if_pos y]
        exact (h.2.1 a y).1
      · rw [if_neg y, if_pos ha]
        exact (hk.1 (a - ln) (by omega)).1
    · unfold cdAp
      by_cases y : a < ln
      · rw [if_pos y]
        exact (h.2.1 a y).2.1
      · rw [if_neg y, if_pos ha]
        exact (hk.1 (a - ln) (by omega)).2
  · unfold cdAp
    rw [if_neg (by omega), if_neg (by omega)]
/-! draws -/
/-- what is told of the inputs is in order -/
def okIn (Y : TT) (RD : Nat → Nat → Int32) : Prop := ∀ i, i < 6 → (Y 2 i = 4 ∧ ∃ c, 1 ≤ c ∧ c ≤ 8 ∧ Y 4 i = nI c ∧ ∀ k, k < c → smallR (RD i k)) ∨ (∃ s w, s ≤ 3 ∧ w ≤ 99 ∧ Y 2 i = nI s ∧ Y 4 i = 0 ∧ Y 3 i = nI w)
theorem c_drawOf {i : Nat} (hi : i < 6) {Y : TT} {RD : Nat → Nat → Int32} (hS : okIn Y RD) {k : Nat} (hk : k ≤ 65536) : ∃ r k', k' ≤ 65536 ∧ fX4_drawOf (nI i) (Y 0) (Y 2) (Y 3) (Y 4) RD (nI k) = some (r, nI k') := by
  have n1 := nxt_le k
  have hci := clamp_n (show i < 2 ^ 31 by omega)
  unfold fX4_drawOf
  simp only [gi_n hi (show 6 < 2 ^ 31 by omega), hci]
  rcases hS i hi with ⟨h1, c, c1, c2, h2, h3⟩ | ⟨s, w, s3, w99, h1, h2, h3⟩
  · simp only [h1, h2]
    rw [if_neg (show ¬ (4 : Int32) = 1 by decide), if_neg (show ¬ (4 : Int32) = 2 by decide), if_neg (show ¬ (4 : Int32) = 3 by decide), if_pos trivial]
    have lt := Nat.mod_lt (nxt k) (show 0 < c by omega)
    rw [c_modulo (by omega) (by omega) hk, bnd2_s]
    simp only [gi_n (show nxt k % c < 8 by omega) (show 8 < 2 ^ 31 by omega)]
    exact ⟨_, _, n1, rfl⟩
  · simp only [h1, h3]
    have w21 : (2 : Int32) * nI w + 1 = nI (2 * w + 1) := by rw [show (2 : Int32) = nI 2 from rfl, pk_mul, nI_1]
    have w1 : nI w + 1 = nI (w + 1) := nI_1 w
    have : s = 0 ∨ s = 1 ∨ s = 2 ∨ s = 3 := by omega
    rcases this with rfl | rfl | rfl | rfl
    · rw [if_neg (show ¬ nI 0 = 1 by decide), if_neg (show ¬ nI 0 = 2 by decide), if_neg (show ¬ nI 0 = 3 by decide), if_neg (show ¬ nI 0 = 4 by decide)]
      exact ⟨_, _, hk, rfl⟩
    · rw [if_pos (show nI 1 = 1 from rfl), w21, c_modulo (by omega) (by omega) hk, bnd2_s]
      exact ⟨_, _, n1, rfl⟩
    · rw [if_neg (show ¬ nI 2 = 1 by decide), if_pos (show nI 2 = 2 from rfl), w1, c_modulo (by omega) (by omega) hk, bnd2_s, c_modulo (by omega) (by omega) n1, bnd2_s]
      exact ⟨_, _, nxt_le _, rfl⟩
    · rw [if_neg (show ¬ nI 3 = 1 by decide), if_neg (show ¬ nI 3 = 2 by decide), if_pos (show nI 3 = 3 from rfl)]
      have m := c_modulo (b := 2) (by omega) (by omega) hk
      have m : fX1_modulo 2 (nI k) = some (nI (nxt k % 2), nI (nxt k)) := m
      rw [m, bnd2_s]
      exact ⟨_, _, n1, rfl⟩
theorem c_into_loop {Y : TT} {RD : Nat → Nat → Int32} (hS : okIn Y RD) : ∀ (f j k : Nat) (u : Nat → Int32), j ≤ 6 → 6 - j < f → k ≤ 65536 → ∃ (k' : Nat) (u' : Nat → Int32), k' ≤ 65536 ∧ LX4_drawInto_2 (Y 0) (Y 2) (Y 3) (Y 4) RD (fun u x => some (u, x)) f (nI j) u (nI k) = some (u', nI k')
  | 0, j, _, _, _, q, _ => absurd q (Nat.not_lt_zero _)
  | f + 1, j, k, u, hj, q, hk => by
    rw [LX4_drawInto_2]
    by_cases hc : 6 ≤ j
    · have : j = 6 := by omega
      subst this
      rw [if_pos (by decide)]
      exact ⟨k, u, hk, rfl⟩
    · have hq : ¬ (6 : Int32) ≤ nI j := fun q => hc ((nI_leI (a := 6) (by omega) (by omega)).mp q)
      obtain ⟨r, k', k1, e1⟩ := c_drawOf (show j < 6 by omega) hS hk
      rw [if_neg hq, e1, bnd2_s, gi_n (show j < 6 by omega) (by omega), clamp_n (by omega), nI_1]
      exact c_into_loop hS f (j + 1) k' _ (by omega) (by omega) k1
theorem c_drawInto {Y : TT} {RD : Nat → Nat → Int32} (hS : okIn Y RD) {k : Nat} (hk : k ≤ 65536) (u : Nat → Int32) : ∃ (k' : Nat) (u' : Nat → Int32), k' ≤ 65536 ∧ fX4_drawInto (Y 0) (Y 2) (Y 3) (Y 4) RD u (nI k) = some (u', nI k') :=
  c_into_loop hS 1000 0 k u (by omega) (by omega) hk
theorem c_draw_loop {n rt : Nat} {K L R : Nat → Int32} (hn : n ≤ 60) (hrt : rt < n) (hok : ∀ j, j < n → rowOK j (K j) (L j) (R j)) {Y : TT} {RD : Nat → Nat → Int32} (hS : okIn Y RD) {d : Nat} (hd : d ≤ 100) (Uf : Nat → Option Nat) (V : Nat → Int32) (CV : Nat → Nat → Int32) (Vd Vf : Nat → Int32) (Vc v1 : Int32) (pF : Nat) (v4 v6 : Int64) (Fs bs bc : Nat → Int64) (bv bd : Int64)
    (Eb : Int32 → (Nat → Int32) → (Nat → Int64) → (Nat → Int64) → (Nat → Int64) → (Nat → Int64) → Int64 → Int64 → Int32 → Option (Int32 × (Nat → Int32) × (Nat → Int64) × (Nat → Int64) × (Nat → Int64) × (Nat → Int64) × Int64 × Int64 × Int32)) :
    ∀ (f j k h : Nat) (u : Nat → Int32) (X : Nat → Int64), j ≤ d → d - j < f → k ≤ 65536 → h ≤ j → (v4 = -1 → h = 0) → ∃ (k' h' : Nat) (u' : Nat → Int32) (X' : Nat → Int64), k' ≤ 65536 ∧ h' ≤ d ∧ (v4 = -1 → h' = 0) ∧ LX6_draw_57 Uf (Y 0) V (Y 2) (Y 3) (Y 4) RD CV K L R (nI n) (nI rt) Vd Vf Vc v1 (nI d) pF Eb f v4 v6 (nI h) (nI j) u X Fs bs bc bv bd (nI k) = Eb (nI h') u' X' Fs bs bc bv bd (nI k')
  | 0, j, _, _, _, _, _, q, _, _, _ => absurd q (Nat.not_lt_zero _)
  | f + 1, j, k, h, u, X, hj, q, hk, hh, h0 => by
    rw [LX6_draw_57]
    by_cases hc : d ≤ j
    · rw [if_pos (nI_le hc (by omega))]
      exact ⟨k, h, u, X, hk, by omega, h0, rfl⟩
    · rw [if_neg (fun y => hc ((nI_leI (by omega) (by omega)).mp y))]
      obtain ⟨k', u', k1, g1⟩ := c_drawInto hS hk u
      rw [g1, bnd2_s, c_reckonBy hn hok (by omega) u' X, bnd2_s]
      have skip := c_draw_loop hn hrt hok hS hd Uf V CV Vd Vf Vc v1 pF v4 v6 Fs bs bc bv bd Eb f (j + 1) k' h u' (valsTo K L R u' n X) (by omega) (by omega) k1 (by omega) h0
      by_cases c1 : lg_cmp v4 (-1) = 0
      · rw [if_pos c1, nI_1]
        exact skip
      · rw [if_neg c1]
        by_cases c2 : lg_cmp (valsTo K L R u' n X rt - v6) (-v4) < 0
        · rw [if_pos c2, nI_1]
          exact skip
        · rw [if_neg c2]
          by_cases c3 : 0 < lg_cmp (valsTo K L R u' n X rt - v6) v4
          · rw [if_pos c3, nI_1]
            exact skip
          · rw [if_neg c3, nI_1, nI_1]
            exact c_draw_loop hn hrt hok hS hd Uf V CV Vd Vf Vc v1 pF v4 v6 Fs bs bc bv bd Eb f (j + 1) k' (h + 1) u' _ (by omega) (by omega) k1 (by omega) (fun y => absurd ((lg_cmp_eq v4 (-1)).mpr y) c1)
/-! readings -/
theorem c_floor {s : Int32} {n : Nat} (h1 : 1 ≤ n) (h8 : n ≤ 8) : ∃ q, fJ9_floorDiv_7cf53 s (nI n) = some q ∧ (n = 1 → q = s) := by
  have nz : ¬ nI n = 0 := nI_ne0 (by omega) (by omega)
  unfold fJ9_floorDiv_7cf53
  rw [gz_ok nz]
  have one : n = 1 → s / nI n = s := fun e => by
    rw [e]
    exact Int32.div_one
  by_cases a : 0 ≤ s ^^^ nI n
  · rw [if_pos a]
    exact ⟨_, rfl, one⟩
  · rw [if_neg a]
    by_cases b : s / nI n * nI n = s
    · rw [if_pos b]
      exact ⟨_, rfl, one⟩
    · rw [if_neg b]
      refine ⟨_, rfl, fun e => absurd ?_ b⟩
      rw [one e, e]
      exact Int32.mul_one s
/-- the square of a sum is at most as many times the sum of the squares -/
theorem sq_step {S Q x : Int} {n : Nat} (hn : n ≤ 7) (h : S * S ≤ n * Q) (h0 : n = 0 → S = 0) (hQ : 0 ≤ Q) : (S + x) * (S + x) ≤ ((n + 1 : Nat) : Int) * (Q + x * x) := by
  have k : ∀ m : Int, 0 ≤ (S - m * x) * (S - m * x) := fun m => by
    rcases Int.le_total 0 (S - m * x) with g | g
    · exact Int.mul_nonneg g g
    · exact Int.mul_nonneg_of_nonpos_of_nonpos g g
  have e1 : (S + x) * (S + x) = S * S + 2 * (S * x) + x * x := by grind
  have e2 : ∀ m : Int, (S - m * x) * (S - m * x) = S * S - 2 * m * (S * x) + m * m * (x * x) := fun m => by grind
  rw [e1]
  have k2 := k n
  rw [e2] at k2
  have hx : 0 ≤ x * x := by
    have := k 0
    rcases Int.le_total 0 x with g | g
    · exact Int.mul_nonneg g g
    · exact Int.mul_nonneg_of_nonpos_of_nonpos g g
  rcases (show n = 0 ∨ n = 1 ∨ n = 2 ∨ n = 3 ∨ n = 4 ∨ n = 5 ∨ n = 6 ∨ n = 7 by omega) with rfl | rfl | rfl | rfl | rfl | rfl | rfl | rfl
  · have := h0 rfl
    subst this
    generalize x * x = C at *
    simp at *
    omega
  all_goals (generalize x * x = C at *; generalize S * S = A at *; generalize S * x = B at *; simp at *; omega)
def isum (R : Nat → Int32) : Nat → Int
  | 0 => 0
  | n + 1 => isum R n + (R n).toInt
def isq (R : Nat → Int32) : Nat → Int
  | 0 => 0
  | n + 1 => isq R n + (R n).toInt * (R n).toInt
theorem sq_bd {x : Int} (h1 : -999 ≤ x) (h2 : x ≤ 999) : 0 ≤ x * x ∧ x * x ≤ 998001 := by
  constructor
  · rcases Int.le_total 0 x with g | g
    · exact Int.mul_nonneg g g
    · exact Int.mul_nonneg_of_nonpos_of_nonpos g g
  · rcases Int.le_total 0 x with g | g
    · have := Int.mul_le_mul h2 h2 g (by decide)
      omega
    · have := Int.mul_le_mul (show -x ≤ 999 by omega) (show -x ≤ 999 by omega) (by omega) (by decide)
      rw [Int.neg_mul_neg] at this
      omega
theorem sums_ok {R : Nat → Int32} : ∀ {n : Nat}, n ≤ 8 → (∀ k, k < n → smallR (R k)) → (rsum R n).toInt = isum R n ∧ (rsq R n).toInt = isq R n ∧ -(999 * (n : Int)) ≤ isum R n ∧ isum R n ≤ 999 * n ∧ 0 ≤ isq R n ∧ isq R n ≤ 998001 * n ∧ isum R n * isum R n ≤ n * isq R n
  | 0, _, _ => by
    refine ⟨rfl, rfl, ?_, ?_, ?_, ?_, ?_⟩ <;> simp [isum, isq]
  | n + 1, hn, h => by
    obtain ⟨a1, a2, a3, a4, a5, a6, a7⟩ := sums_ok (n := n) (by omega) (fun k q => h k (by omega))
    have s := h n (by omega)
    unfold smallR at s
    have sb := sq_bd s.1 s.2
    have e1 : (rsum R (n + 1)).toInt = isum R n + (R n).toInt := by
      show (rsum R n + R n).toInt = _
      rw [Int32.toInt_add, a1, Int.bmod_eq_of_le (by omega) (by omega)]
    have e2 : (rsq R (n + 1)).toInt = isq R n + (R n).toInt * (R n).toInt := by
      show (rsq R n + R n * R n).toInt = _
      rw [Int32.toInt_add, Int32.toInt_mul, a2, Int.bmod_eq_of_le (n := (R n).toInt * (R n).toInt) (by omega) (by omega), Int.bmod_eq_of_le (by omega) (by omega)]
    refine ⟨e1, e2, ?_, ?_, ?_, ?_, ?_⟩
    · show _ ≤ isum R n + (R n).toInt
      omega
    · show isum R n + (R n).toInt ≤ _
      omega
    · show 0 ≤ isq R n + (R n).toInt * (R n).toInt
      omega
    · show isq R n + (R n).toInt * (R n).toInt ≤ _
      omega
    · exact sq_step (by omega) a7 (fun e => by subst e; rfl) a5
/-- the variance of readings is not below 0 -/
theorem var_pos {R : Nat → Int32} {n : Nat} (h2 : 2 ≤ n) (h8 : n ≤ 8) (h : ∀ k, k < n → smallR (R k)) : 0 ≤ (nI n * rsq R n - rsum R n * rsum R n) / ((nI n * nI n) * (nI n - 1)) := by
  obtain ⟨a1, a2, a3, a4, a5, a6, a7⟩ := sums_ok h8 h
  have tn : (nI n).toInt = n := nI_toInt (by omega)
  have m1 : isum R n * isum R n ≤ 63872064 := by
    rcases Int.le_total 0 (isum R n) with g | g
    · have := Int.mul_le_mul (show isum R n ≤ 7992 by omega) (show isum R n ≤ 7992 by omega) g (by decide)
      omega
    · have := Int.mul_le_mul (show -isum R n ≤ 7992 by omega) (show -isum R n ≤ 7992 by omega) (by omega) (by decide)
      rw [Int.neg_mul_neg] at this
      omega
  have m0 : 0 ≤ isum R n * isum R n := by
    rcases Int.le_total 0 (isum R n) with g | g
    · exact Int.mul_nonneg g g
    · exact Int.mul_nonneg_of_nonpos_of_nonpos g g
  have q1 : (n : Int) * isq R n ≤ 63872064 := by
    have := Int.mul_le_mul (show (n : Int) ≤ 8 by omega) (show isq R n ≤ 7984008 by omega) a5 (by decide)
    omega
  have q0 : 0 ≤ (n : Int) * isq R n := Int.mul_nonneg (by omega) a5
  have ea : (nI n * rsq R n).toInt = n * isq R n := by rw [Int32.toInt_mul, tn, a2, Int.bmod_eq_of_le (by omega) (by omega)]
  have eb : (rsum R n * rsum R n).toInt = isum R n * isum R n := by rw [Int32.toInt_mul, a1, Int.bmod_eq_of_le (by omega) (by omega)]
  have ec : (nI n * rsq R n - rsum R n * rsum R n).toInt = n * isq R n - isum R n * isum R n := by rw [Int32.toInt_sub, ea, eb, Int.bmod_eq_of_le (by omega) (by omega)]
  obtain ⟨c, rfl⟩ : ∃ c, n = c + 1 := ⟨n - 1, by omega⟩
  have ed : (nI (c + 1) * nI (c + 1)) * (nI (c + 1) - 1) = nI ((c + 1) * (c + 1) * c) := by rw [nI_pred, pk_mul, pk_mul]
  have dl : (c + 1) * (c + 1) * c ≤ 8 * 8 * 7 := Nat.mul_le_mul (Nat.mul_le_mul (by omega) (by omega)) (by omega)
  have d0 : 0 < (c + 1) * (c + 1) * c := Nat.mul_pos (Nat.mul_pos (by omega) (by omega)) (by omega)
  rw [ed]
  generalize (c + 1) * (c + 1) * c = dd at dl d0
  have hx : ¬ (nI (c + 1) * rsq R (c + 1) - rsum R (c + 1) * rsum R (c + 1)) < 0 := by
    rw [lt_i, ec]
    have z : (0 : Int32).toInt = 0 := by decide
    omega
  obtain ⟨x, hx1, hx2⟩ := nI_of hx
  rw [hx2, pk_div hx1 d0 (by omega)]
  have := Nat.div_le_self x dd
  exact nI_pos' (by omega)
