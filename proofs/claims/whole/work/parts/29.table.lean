/-! ===== the table ===== -/
theorem c_find_loop {n : Nat} (hn : n ≤ 12) (D : Nat → Int32) (v : Int32) : ∀ (f j : Nat), j ≤ n → n - j < f → (∀ i, i < j → ¬ D i = v) → ∃ k, k ≤ n ∧ LX2_find_2 D (nI n) v (fun v2 => some v2) f (nI j) = some (nI k) ∧ (k < n → D k = v) ∧ ∀ i, i < k → ¬ D i = v
  | 0, j, _, q, _ => absurd q (Nat.not_lt_zero _)
  | f + 1, j, hj, q, hI => by
    rw [LX2_find_2]
    by_cases hc : n ≤ j
    · have : j = n := by omega
      subst this
      rw [if_pos ((nI_leI (by omega) (by omega)).mpr hc)]
      exact ⟨j, hj, rfl, fun y => absurd y (by omega), hI⟩
    · rw [if_neg (fun q => hc ((nI_leI (by omega) (by omega)).mp q)), gi_n (show j < 12 by omega) (by omega), clamp_n (by omega), nI_1]
      by_cases e : D j = v
      · rw [if_pos e]
        exact ⟨j, hj, rfl, fun _ => e, hI⟩
      · rw [if_neg e]
        exact c_find_loop hn D v f (j + 1) (by omega) (by omega) (fun i hi => by
          by_cases y : i = j
          · rw [y]; exact e
          · exact hI i (by omega))
theorem c_find {n : Nat} (hn : n ≤ 12) (D : Nat → Int32) (v : Int32) : ∃ k, k ≤ n ∧ fX2_find v D (nI n) = some (nI k) ∧ (k < n → D k = v) ∧ ∀ i, i < k → ¬ D i = v :=
  c_find_loop hn D v 1000 0 (by omega) (by omega) (fun _ h => absurd h (Nat.not_lt_zero _))
/-- the row that the reference finds -/
def foundAt (n k : Nat) : Int32 := if k < n then nI k else -1
theorem m_find_loop {n : Nat} {D F MF MA : Nat → Int32} (h : TabRel n D F MF MA) {v : Int32} {k : Nat} (h1 : k < n → D k = v) (h2 : ∀ i, i < k → ¬ D i = v) (hk : k ≤ n) (v2 T : Int32) (E : Int32 → (Nat → Int32) → (Nat → Int32) → Int32 → Int32 → Option (Int32 × (Nat → Int32) × (Nat → Int32) × Int32 × Int32)) :
    ∀ (f j : Nat), j ≤ n → n - j < f → LX7_table_5 v v2 E f (foundAt j k) (nI j) MF MA T (nI n) = E (foundAt n k) MF MA T (nI n)
  | 0, j, _, q => absurd q (Nat.not_lt_zero _)
  | f + 1, j, hj, q => by
    have h12 := h.1
    rw [LX7_table_5]
    by_cases hc : n ≤ j
    · have : j = n := by omega
      subst this
      rw [if_pos ((nI_leI (by omega) (by omega)).mpr hc)]
    · have ih := m_find_loop h h1 h2 hk v2 T E f (j + 1) (by omega) (by omega)
      rw [if_neg (fun q => hc ((nI_leI (by omega) (by omega)).mp q)), gi_n (show j < 12 by omega) (by omega), clamp_n (by omega), nI_1, (h.2.1 j (by omega)).1]
      by_cases e : D j = v
      · have ek : k = j := by
          by_cases y : k < n
          · exact h.2.2 k j y (by omega) ((h1 y).trans e.symm)
          · exact absurd e (h2 j (by omega))
        rw [if_pos e]
        rw [ek] at ih ⊢
        rw [show foundAt (j + 1) j = nI j from if_pos (by omega)] at ih
        exact ih
      · rw [if_neg e]
        have : foundAt (j + 1) k = foundAt j k := by
          unfold foundAt
          by_cases y : k < j
          · rw [if_pos y, if_pos (by omega)]
          · by_cases z : k = j
            · subst z
              exact absurd (h1 (by omega)) e
            · rw [if_neg y, if_neg (by omega)]
        rw [this] at ih
        exact ih
/-- which pairs can be told to the table -/
abbrev tabBad (v1 v2 : Int32) : Prop := v1 < 1 ∨ 9999 < v1 ∨ v2 < -1 ∨ 999 < v2
theorem m_table_find {n : Nat} {D F MF MA : Nat → Int32} (h : TabRel n D F MF MA) {v : Int32} {k : Nat} (h1 : k < n → D k = v) (h2 : ∀ i, i < k → ¬ D i = v) (hk : k ≤ n) (v2 T : Int32) :
    fX7_table v v2 MF MA T (nI n) = BX7_table_65 v v2 (foundAt n k) (if tabBad v v2 then 0 else 1) MF MA T (nI n) := by
  unfold fX7_table
  refine Eq.trans (m_find_loop h h1 h2 hk v2 T _ 1000 0 (by omega) (by have := h.1; omega)) ?_
  rw [isIn_eq, isIn_eq, bnd1_s, bnd1_s]
  unfold tabBad BX7_table_64
  by_cases c1 : v < 1 ∨ 9999 < v
  · rw [if_pos c1, if_pos rfl, if_pos (by rcases c1 with c | c; exact Or.inl c; exact Or.inr (Or.inl c))]
  · rw [if_neg c1, if_neg (show ¬ (1 : Int32) = 0 by decide)]
    by_cases c2 : v2 < -1 ∨ 999 < v2
    · rw [if_pos c2, if_pos rfl, if_pos (by rcases c2 with c | c; exact Or.inr (Or.inr (Or.inl c)); exact Or.inr (Or.inr (Or.inr c)))]
    · rw [if_neg c2, if_neg (show ¬ (1 : Int32) = 0 by decide), if_neg (fun y => by
        rcases y with c | c | c | c
        · exact c1 (Or.inl c)
        · exact c1 (Or.inr c)
        · exact c2 (Or.inl c)
        · exact c2 (Or.inr c))]
theorem m_table_bad {n : Nat} {D F MF MA : Nat → Int32} (h : TabRel n D F MF MA) {v v2 : Int32} (hb : tabBad v v2) (T : Int32) : fX7_table v v2 MF MA T (nI n) = some (0, MF, MA, 1, nI n) := by
  obtain ⟨k, k1, -, k3, k4⟩ := c_find h.1 D v
  rw [m_table_find h k3 k4 k1, if_pos hb]
  unfold BX7_table_65
  rw [if_pos rfl]
  unfold BX7_table_101
  rw [holds_eq]
  rfl
theorem foundAt_lt {n k : Nat} (h : k < n) : foundAt n k = nI k := if_pos h
theorem foundAt_n (n : Nat) : foundAt n n = -1 := if_neg (Nat.lt_irrefl n)
theorem t101_out (v fo T : Int32) (MF MA : Nat → Int32) (r : Int32) : BX7_table_101 v (-1) fo 0 MF MA T r = if fo = -1 then BX7_table_129 v (-1) fo r 0 MF MA 0 r else BX7_table_129 v (-1) fo r 1 MF MA 0 r := by
  unfold BX7_table_101
  rw [holds_eq, bnd2_s, if_pos rfl, if_neg (show ¬ (1 : Int32) = 0 by decide), if_pos rfl]
theorem t101_in {v2 : Int32} (h : ¬ v2 = -1) (v fo T : Int32) (MF MA : Nat → Int32) (r : Int32) : BX7_table_101 v v2 fo 0 MF MA T r = if fo = -1 then BX7_table_186 v v2 fo r MF MA 0 r else BX7_table_186 v v2 fo fo MF MA 0 r := by
  unfold BX7_table_101
  rw [holds_eq, bnd2_s, if_pos rfl, if_neg (show ¬ (1 : Int32) = 0 by decide), if_neg h]
theorem ji_m1 {k : Nat} (h : k < 12) : ¬ nI k = -1 := nI_neM1 (by omega)
/-- out of the table -/
theorem table_out {n : Nat} {D F MF MA : Nat → Int32} (h : TabRel n D F MF MA) {v : Int32} (hb : ¬ tabBad v (-1)) (T : Int32) :
    ∃ (n' : Nat) (D' F' MF' MA' : Nat → Int32), fX2_remove v D F (nI n) = some (D', F', nI n') ∧ fX7_table v (-1) MF MA T (nI n) = some (nI n', MF', MA', 0, nI n') ∧ TabRel n' D' F' MF' MA' := by
  have h12 := h.1
  obtain ⟨k, k1, k2, k3, k4⟩ := c_find h.1 D v
  have em : fX7_table v (-1) MF MA T (nI n) = BX7_table_101 v (-1) (foundAt n k) 0 MF MA T (nI n) := by
    rw [m_table_find h k3 k4 k1, if_neg hb]
    unfold BX7_table_65 BX7_table_100
    rw [if_neg (by decide), if_pos rfl]
    split <;> rfl
  rw [em]
  unfold fX2_remove
  rw [k2, bnd1_s, t101_out]
  by_cases c : k < n
  · obtain ⟨n', rfl⟩ : ∃ n', n = n' + 1 := ⟨n - 1, by omega⟩
    rw [foundAt_lt c, if_neg (fun q : nI (n' + 1) ≤ nI k => absurd ((nI_leI (by omega) (by omega)).mp q) (by omega)), if_neg (ji_m1 (show k < 12 by omega))]
    unfold BX7_table_129
    simp only [nI_pred, gi_n (show k < 12 by omega) (show 12 < 2 ^ 31 by omega), gi_n (show n' < 12 by omega) (show 12 < 2 ^ 31 by omega), clamp_n (show k < 2 ^ 31 by omega), clamp_n (show n' < 2 ^ 31 by omega)]
    rw [if_neg (ji_m1 (by omega))]
    refine ⟨n', _, _, _, _, rfl, rfl, by omega, fun j hj => ?_, fun i j hi hj hij => ?_⟩
    · simp only [upd_at]
      by_cases e : j = k
      · simp only [e, if_true]
        exact h.2.1 n' (by omega)
      · simp only [e, if_false]
        exact h.2.1 j (by omega)
    · simp only [upd_at] at hij
      by_cases e1 : i = k
      · by_cases e2 : j = k
        · omega
        · rw [if_pos e1, if_neg e2] at hij
          have := h.2.2 n' j (by omega) (by omega) hij
          omega
      · by_cases e2 : j = k
        · rw [if_neg e1, if_pos e2] at hij
          have := h.2.2 i n' (by omega) (by omega) hij
          omega
        · rw [if_neg e1, if_neg e2] at hij
          exact h.2.2 i j (by omega) (by omega) hij
  · have : k = n := by omega
    subst this
    rw [foundAt_n, if_pos (show nI k ≤ nI k from (nI_leI (by omega) (by omega)).mpr (Nat.le_refl _)), if_pos rfl]
    unfold BX7_table_129
    rw [if_pos rfl, show nI k - 0 = nI k by grind]
    exact ⟨k, D, F, MF, MA, rfl, rfl, h⟩
/-- into the table -/
theorem table_in {n : Nat} {D F MF MA : Nat → Int32} (h : TabRel n D F MF MA) {v v2 : Int32} (hb : ¬ tabBad v v2) (h2 : ¬ v2 = -1) (T : Int32) :
    (∃ (n' : Nat) (D' F' MF' MA' : Nat → Int32), fX2_hasRoomFor v D (nI n) = some 1 ∧ fX2_put v v2 D F (nI n) = some (D', F', nI n') ∧ fX7_table v v2 MF MA T (nI n) = some (nI n', MF', MA', 0, nI n') ∧ TabRel n' D' F' MF' MA') ∨
    (fX2_hasRoomFor v D (nI n) = some 0 ∧ fX7_table v v2 MF MA T (nI n) = some (0, MF, MA, 2, nI n)) := by
  have h12 := h.1
  obtain ⟨k, k1, k2, k3, k4⟩ := c_find h.1 D v
  have v1 : 0 < v := by
    have : ¬ v < 1 := fun y => hb (Or.inl y)
    rw [lt_i] at this ⊢
    have z : (0 : Int32).toInt = 0 := by decide
    have z1 : (1 : Int32).toInt = 1 := by decide
    omega
  have v9 : v ≤ 9999 := by
    have : ¬ 9999 < v := fun y => hb (Or.inr (Or.inl y))
    rw [lt_i] at this
    rw [le_i]
    omega
  rw [m_table_find h k3 k4 k1, if_neg hb]
  unfold fX2_hasRoomFor fX2_put BX7_table_65 BX7_table_100
  rw [k2, bnd1_s, bnd1_s, if_neg (show ¬ (1 : Int32) = 0 by decide)]
  by_cases c : k < n
  · -- one that is there
    left
    have q12 : ¬ (12 : Int32) ≤ nI k := fun q => absurd ((nI_leI (a := 12) (by omega) (by omega)).mp q) (by omega)
    rw [foundAt_lt c, if_neg q12, if_neg q12, if_neg (ji_m1 (by omega))]
    rw [t101_in h2, if_neg (ji_m1 (show k < 12 by omega))]
    unfold BX7_table_186
    rw [if_neg (ji_m1 (show k < 12 by omega))]
    unfold BX7_table_203
    simp only [nI_1, gi_n (show k < 12 by omega) (show 12 < 2 ^ 31 by omega), clamp_n (show k < 2 ^ 31 by omega), show nI n + 0 = nI n by grind]
    rw [if_neg (fun q => absurd ((nI_ltI (by omega) (by omega)).mp q) (by omega))]
    refine ⟨n, _, _, _, _, trivial, rfl, rfl, h12, fun j hj => ?_, fun i j hi hj hij => ?_⟩
    · simp only [upd_at]
      by_cases e : j = k
      · simp only [e, if_true]
        exact ⟨trivial, trivial, v1, v9⟩
      · simp only [e, if_false]
        exact h.2.1 j (by omega)
    · simp only [upd_at] at hij
      have d := k3 c
      have cl : ∀ i, (if i = k then v else D i) = D i := fun i => by
        by_cases e : i = k
        · rw [if_pos e, e, d]
        · rw [if_neg e]
      rw [cl, cl] at hij
      exact h.2.2 i j hi hj hij
  · have : k = n := by omega
    subst this
    rw [foundAt_n, if_pos rfl, if_neg h2]
    by_cases full : k = 12
    · right
      have q12 : (12 : Int32) ≤ nI k := (nI_leI (a := 12) (by omega) (by omega)).mpr (by omega)
      rw [if_pos q12, if_pos (show nI k = 12 by rw [full]; rfl)]
      refine ⟨rfl, ?_⟩
      unfold BX7_table_101
      rw [holds_eq]
      rfl
    · left
      have q12 : ¬ (12 : Int32) ≤ nI k := fun q => absurd ((nI_leI (a := 12) (by omega) (by omega)).mp q) (by omega)
      rw [if_neg q12, if_neg q12, if_neg (show ¬ nI k = 12 from fun q => full ((nI_eq (b := 12) (by omega) (by omega)).mp q))]
      rw [t101_in h2, if_pos rfl]
      unfold BX7_table_186
      rw [if_pos rfl]
      unfold BX7_table_203
      simp only [nI_1, gi_n (show k < 12 by omega) (show 12 < 2 ^ 31 by omega), clamp_n (show k < 2 ^ 31 by omega)]
      rw [if_pos ((nI_ltI (by omega) (by omega)).mpr (by omega))]
      refine ⟨k + 1, _, _, _, _, trivial, rfl, rfl, by omega, fun j hj => ?_, fun i j hi hj hij => ?_⟩
      · simp only [upd_at]
        by_cases e : j = k
        · simp only [e, if_true]
          exact ⟨trivial, trivial, v1, v9⟩
        · simp only [e, if_false]
          exact h.2.1 j (by omega)
      · simp only [upd_at] at hij
        by_cases e1 : i = k
        · by_cases e2 : j = k
          · omega
          · rw [if_pos e1, if_neg e2] at hij
            exact absurd hij.symm (k4 j (by omega))
        · by_cases e2 : j = k
          · rw [if_neg e1, if_pos e2] at hij
            exact absurd hij (k4 i (by omega))
          · rw [if_neg e1, if_neg e2] at hij
            exact h.2.2 i j (by omega) (by omega) hij
/-! ===== the seed ===== -/
theorem m_seed (v T x : Int32) : fX7_seed v T x = if v < 0 ∨ 65536 < v then some (0, 1, x) else some (x, 0, v) := by
  unfold fX7_seed BX7_seed_16
  rw [isIn_eq, bnd1_s, holds_eq, holds_eq]
  by_cases h : v < 0 ∨ 65536 < v
  · rw [if_pos h, if_pos h]
    rfl
  · rw [if_neg h, if_neg h]
    rfl
