/-! ===== the rows of a model: what they are worth ===== -/
/-- a row's operands stand before it -/
def rowOK (n : Nat) (k l r : Int32) : Prop :=
  (k = 0 ∧ r = 0) ∨ (k = 1 ∧ r = 0 ∧ ∃ j, j < 6 ∧ l = nI j) ∨ (k = 2 ∧ r = 0 ∧ ∃ a, a < n ∧ l = nI a) ∨ ((k = 3 ∨ k = 4 ∨ k = 5) ∧ ∃ a b, a < n ∧ b < n ∧ l = nI a ∧ r = nI b) ∨ (k = 6 ∧ ∃ a e, a < n ∧ e < 5 ∧ l = nI a ∧ r = nI e)
/-- the reference's number of a kind -/
def km (k : Int32) : Int32 := if k = 0 then 0 else if k = 1 then 1 else if k = 2 then 6 else if k = 3 then 2 else if k = 4 then 3 else if k = 5 then 4 else 5
def powL (b : Int64) : Nat → Int64
  | 0 => 1
  | n + 1 => powL b n * b
theorem c_power_loop (b : Int64) (e : Nat) (he : e < 2 ^ 31) (E : Int64 → Option Int64) : ∀ (f j : Nat), j ≤ e → e - j < f → LX3_power_5 b (nI e) E f (powL b j) (nI j) = E (powL b e)
  | 0, j, _, h => absurd h (Nat.not_lt_zero _)
  | f + 1, j, hj, h => by
    rw [LX3_power_5]
    by_cases hc : e ≤ j
    · have : j = e := by omega
      subst this
      rw [if_pos ((nI_leI (by omega) (by omega)).mpr hc)]
    · rw [if_neg (fun q => hc ((nI_leI (by omega) (by omega)).mp q)), nI_1]
      exact c_power_loop b e he E f (j + 1) (by omega) (by omega)
theorem c_power (b : Int64) {e : Nat} (he : e < 900) : fX3_power b (nI e) = some (powL b e) := by
  unfold fX3_power
  exact c_power_loop b e (by omega) _ 1000 0 (by omega) (by omega)
theorem m_power_loop (b : Int64) (e : Nat) (he : e < 2 ^ 31) (E : Int64 → Option Int64) : ∀ (f j : Nat), j ≤ e → e - j < f → LX7_power__5 b (nI e) E f (powL b j) (nI j) = E (powL b e)
  | 0, j, _, h => absurd h (Nat.not_lt_zero _)
  | f + 1, j, hj, h => by
    rw [LX7_power__5]
    by_cases hc : e ≤ j
    · have : j = e := by omega
      subst this
      rw [if_pos ((nI_leI (by omega) (by omega)).mpr hc)]
    · rw [if_neg (fun q => hc ((nI_leI (by omega) (by omega)).mp q)), nI_1]
      exact m_power_loop b e he E f (j + 1) (by omega) (by omega)
theorem m_power (b : Int64) {e : Nat} (he : e < 900) : fX7_power_ b (nI e) = some (powL b e) := by
  unfold fX7_power_
  exact m_power_loop b e (by omega) _ 1000 0 (by omega) (by omega)
/-- what a row is worth, by the rows before it -/
def valRow (k l r : Int32) (u : Nat → Int32) (V : Nat → Int64) : Int64 :=
  if k = 0 then l.toInt64 else if k = 1 then (u l.toNatClampNeg).toInt64 else if k = 2 then -(V l.toNatClampNeg) else if k = 3 then V l.toNatClampNeg + V r.toNatClampNeg else if k = 4 then V l.toNatClampNeg - V r.toNatClampNeg else if k = 5 then V l.toNatClampNeg * V r.toNatClampNeg else powL (V l.toNatClampNeg) r.toNatClampNeg
theorem c_reckonPart {n : Nat} (hn : n < 60) {K L R : Nat → Int32} (h : rowOK n (K n) (L n) (R n)) (V : Nat → Int64) (u : Nat → Int32) :
    fX3_reckonPart (nI n) K L R V u = some (valRow (K n) (L n) (R n) u V) := by
  unfold fX3_reckonPart
  simp only [gi_n hn (show 60 < 2 ^ 31 by omega), clamp_n (show n < 2 ^ 31 by omega)]
  rcases h with ⟨hk, hr⟩ | ⟨hk, hr, j, hj, hl⟩ | ⟨hk, hr, a, ha, hl⟩ | ⟨hk, a, b, ha, hb, hl, hr⟩ | ⟨hk, a, e, ha, he, hl, hr⟩
  · simp [valRow, hk]
  · simp [valRow, hk, hl, gi_n hj (show 6 < 2 ^ 31 by omega)]
  · simp [valRow, hk, hl, gi_n (show a < 60 by omega) (show 60 < 2 ^ 31 by omega)]
  · rcases hk with hk | hk | hk <;> simp [valRow, hk, hl, hr, gi_n (show a < 60 by omega) (show 60 < 2 ^ 31 by omega), gi_n (show b < 60 by omega) (show 60 < 2 ^ 31 by omega)]
  · simp [valRow, hk, hl, hr, gi_n (show a < 60 by omega) (show 60 < 2 ^ 31 by omega), c_power _ (show e < 900 by omega), bnd1_s, clamp_n (show e < 2 ^ 31 by omega)]
/-- the first n rows laid -/
def valsTo (K L R u : Nat → Int32) : Nat → (Nat → Int64) → Nat → Int64
  | 0, V => V
  | n + 1, V => vp_updL (valsTo K L R u n V) n (valRow (K n) (L n) (R n) u (valsTo K L R u n V))
theorem c_reckon_loop {sz : Nat} (hsz : sz ≤ 60) {K L R : Nat → Int32} (h : ∀ n, n < sz → rowOK n (K n) (L n) (R n)) (rt : Int32) (u : Nat → Int32) (V : Nat → Int64) (E : (Nat → Int64) → Option (Int64 × (Nat → Int64))) :
    ∀ (f j : Nat), j ≤ sz → sz - j < f → LX3_reckonBy_2 K L R (nI sz) rt u E f (nI j) (valsTo K L R u j V) = E (valsTo K L R u sz V)
  | 0, j, _, q => absurd q (Nat.not_lt_zero _)
  | f + 1, j, hj, q => by
    rw [LX3_reckonBy_2]
    by_cases hc : sz ≤ j
    · have : j = sz := by omega
      subst this
      rw [if_pos ((nI_leI (by omega) (by omega)).mpr hc)]
    · rw [if_neg (fun q => hc ((nI_leI (by omega) (by omega)).mp q)), c_reckonPart (by omega) (h j (by omega)), bnd1_s, gi_n (show j < 60 by omega) (by omega), nI_1, clamp_n (by omega)]
      exact c_reckon_loop hsz h rt u V E f (j + 1) (by omega) (by omega)
theorem c_reckonBy {sz rt : Nat} (hsz : sz ≤ 60) {K L R : Nat → Int32} (h : ∀ n, n < sz → rowOK n (K n) (L n) (R n)) (hr : rt < 60) (u : Nat → Int32) (V : Nat → Int64) :
    fX3_reckonBy K L R V (nI sz) (nI rt) u = some (valsTo K L R u sz V rt, valsTo K L R u sz V) := by
  unfold fX3_reckonBy
  rw [show (0 : Int32) = nI 0 from rfl, show V = valsTo K L R u 0 V from rfl, c_reckon_loop hsz h (nI rt) u V _ 1000 0 (by omega) (by omega), gi_n hr (by omega), clamp_n (by omega)]
  rfl
