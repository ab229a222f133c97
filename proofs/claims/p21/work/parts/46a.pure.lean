/-! ===== the numbers and guards of the functions ===== -/
theorem gi_ok {α : Type} {i : Int32} {n : Nat} {x : Option α} (h : vp_in i n) : gi i n x = x := by
  unfold gi
  exact if_neg h
theorem gi_n {α : Type} {j n : Nat} {x : Option α} (h : j < n) (hn : n < 2 ^ 31) : gi (nI j) n x = x := gi_ok (vp_in_nI h hn)
theorem gz_ok {α : Type} {y : Int32} {x : Option α} (h : ¬ y = 0) : gz y x = x := by
  unfold gz
  exact if_neg h
theorem gzL_ok {α : Type} {y : Int64} {x : Option α} (h : ¬ y = 0) : gzL y x = x := by
  unfold gzL
  exact if_neg h
theorem gn_0 {α : Type} {x : Option α} : gn .boolean 0 x = x := by
  unfold gn
  exact if_pos rfl
theorem gn_1 {α : Type} {x : Option α} : gn .boolean 1 x = x := by
  unfold gn
  exact if_pos rfl
theorem bnd1_s {α0 β : Type} (a0 : α0) (f : α0 → Option β) : bnd1 (some a0) f = f a0 := rfl
theorem bnd2_s {α0 α1 β : Type} (a0 : α0) (a1 : α1) (f : α0 → α1 → Option β) : bnd2 (some (a0, a1)) f = f a0 a1 := rfl
theorem bnd3_s {α0 α1 α2 β : Type} (a0 : α0) (a1 : α1) (a2 : α2) (f : α0 → α1 → α2 → Option β) : bnd3 (some (a0, a1, a2)) f = f a0 a1 a2 := rfl
theorem bnd4_s {α0 α1 α2 α3 β : Type} (a0 : α0) (a1 : α1) (a2 : α2) (a3 : α3) (f : α0 → α1 → α2 → α3 → Option β) : bnd4 (some (a0, a1, a2, a3)) f = f a0 a1 a2 a3 := rfl
theorem bnd5_s {α0 α1 α2 α3 α4 β : Type} (a0 : α0) (a1 : α1) (a2 : α2) (a3 : α3) (a4 : α4) (f : α0 → α1 → α2 → α3 → α4 → Option β) : bnd5 (some (a0, a1, a2, a3, a4)) f = f a0 a1 a2 a3 a4 := rfl
theorem bnd6_s {α0 α1 α2 α3 α4 α5 β : Type} (a0 : α0) (a1 : α1) (a2 : α2) (a3 : α3) (a4 : α4) (a5 : α5) (f : α0 → α1 → α2 → α3 → α4 → α5 → Option β) : bnd6 (some (a0, a1, a2, a3, a4, a5)) f = f a0 a1 a2 a3 a4 a5 := rfl
theorem bnd7_s {α0 α1 α2 α3 α4 α5 α6 β : Type} (a0 : α0) (a1 : α1) (a2 : α2) (a3 : α3) (a4 : α4) (a5 : α5) (a6 : α6) (f : α0 → α1 → α2 → α3 → α4 → α5 → α6 → Option β) : bnd7 (some (a0, a1, a2, a3, a4, a5, a6)) f = f a0 a1 a2 a3 a4 a5 a6 := rfl
theorem lt_i (a b : Int32) : a < b ↔ a.toInt < b.toInt := Int32.lt_iff_toInt_lt
theorem le_i (a b : Int32) : a ≤ b ↔ a.toInt ≤ b.toInt := Int32.le_iff_toInt_le
/-- an index in range is a small number -/
theorem ix_of {x hi : Int32} {n : Nat} (hh : hi.toInt = (n : Int)) (h0 : ¬ x < 0) (h1 : ¬ hi < x) (hn : n < 2 ^ 31 - 1) : ∃ j : Nat, j < n + 1 ∧ x = nI j := by
  rw [lt_i] at h0 h1
  have z : (0 : Int32).toInt = 0 := by decide
  have hv : vp_in x (n + 1) := vp_in_iff.mpr ⟨by omega, by omega⟩
  exact vp_in_of hv (by omega)
theorem clamp_n {n : Nat} (h : n < 2 ^ 31) : (nI n).toNatClampNeg = n := nI_clamp h
theorem upd_at (f : Nat → Int32) (k : Nat) (x : Int32) (j : Nat) : upd f k x j = if j = k then x else f j := rfl
theorem updL_at (f : Nat → Int64) (k : Nat) (x : Int64) (j : Nat) : vp_updL f k x j = if j = k then x else f j := rfl
theorem upd2_at (f : Nat → Nat → Int32) (i j : Nat) (x : Int32) (a b : Nat) : upd2 f i j x a b = if a = i then (if b = j then x else f i b) else f a b := by
  unfold upd2
  by_cases h : a = i
  · rw [if_pos h, if_pos h]; rfl
  · rw [if_neg h, if_neg h]
/-! ===== shape ===== -/
/-- the variance that a shape gives -/
def varOf (s w : Int32) : Int32 := if s = 1 then w * w / 3 else if s = 2 then w * w / 6 else if s = 3 then w * w / 2 else 0
theorem c_tellShape {i : Nat} (hi : i < 6) (v2 v3 v4 : Int32) (E V S Wd C : Nat → Int32) :
    fX4_tellShape (nI i) v2 v3 v4 E V S Wd C = some (varOf v3 v4, upd E i v2, upd V i (varOf v3 v4), upd S i v3, upd Wd i v4, upd C i 0) := by
  have e : fX4_shapeVariance v3 (v4 * v4) = some (varOf v3 v4) := by
    unfold fX4_shapeVariance varOf
    by_cases h1 : v3 = 1
    · simp [h1]
    · by_cases h2 : v3 = 2
      · simp [h2]
      · by_cases h3 : v3 = 3 <;> simp [h1, h2, h3]
  unfold fX4_tellShape
  simp only [gi_n hi (by omega), e, bnd1_s, clamp_n (show i < 2 ^ 31 by omega), upd_at, if_true]
/-- which shapes can be told -/
def shapeBad (v2 v3 v4 : Int32) : Prop := v2 < -999 ∨ 999 < v2 ∨ v3 < 0 ∨ 3 < v3 ∨ v4 < 0 ∨ (if v3 = 0 then (0 : Int32) else 99) < v4
/-! ===== the rows of a model: what they are worth ===== -/
/-- a row's operands stand before it -/
def rowOK (n : Nat) (k l r : Int32) : Prop :=
  (k = 0 ∧ r = 0) ∨ (k = 1 ∧ r = 0 ∧ ∃ j, j < 6 ∧ l = nI j) ∨ (k = 2 ∧ r = 0 ∧ ∃ a, a < n ∧ l = nI a) ∨ ((k = 3 ∨ k = 4 ∨ k = 5) ∧ ∃ a b, a < n ∧ b < n ∧ l = nI a ∧ r = nI b) ∨ (k = 6 ∧ ∃ a e, a < n ∧ e < 5 ∧ l = nI a ∧ r = nI e)
def powL (b : Int64) : Nat → Int64
  | 0 => 1
  | n + 1 => powL b n * b
theorem c_power_loop (b : Int64) (e : Nat) (he : e < 2 ^ 31) (E : Int64 → Option Int64) : ∀ (f j : Nat), j ≤ e → e - j < f → LX3_power_5 b (nI e) E f (powL b j) (nI j) = E (powL b e)
  | 0, j, _, h => absurd h (Nat.not_lt_zero _)
  | f + 1, j, hj, h => by
    rw [LX3_power_5]
    by_cases hc : e ≤ j
    · have : j = e := by omega
      subst this
      rw [if_pos ((nI_leI (by omega) (by omega)).mpr hc)]
    · rw [if_neg (fun q => hc ((nI_leI (by omega) (by omega)).mp q)), nI_1]
      exact c_power_loop b e he E f (j + 1) (by omega) (by omega)
theorem c_power (b : Int64) {e : Nat} (he : e < 900) : fX3_power b (nI e) = some (powL b e) := by
  unfold fX3_power
  exact c_power_loop b e (by omega) _ 1000 0 (by omega) (by omega)
/-- what a row is worth, by the rows before it -/
def valRow (k l r : Int32) (u : Nat → Int32) (V : Nat → Int64) : Int64 :=
  if k = 0 then l.toInt64 else if k = 1 then (u l.toNatClampNeg).toInt64 else if k = 2 then -(V l.toNatClampNeg) else if k = 3 then V l.toNatClampNeg + V r.toNatClampNeg else if k = 4 then V l.toNatClampNeg - V r.toNatClampNeg else if k = 5 then V l.toNatClampNeg * V r.toNatClampNeg else powL (V l.toNatClampNeg) r.toNatClampNeg
theorem c_reckonPart {n : Nat} (hn : n < 60) {K L R : Nat → Int32} (h : rowOK n (K n) (L n) (R n)) (V : Nat → Int64) (u : Nat → Int32) :
    fX3_reckonPart (nI n) K L R V u = some (valRow (K n) (L n) (R n) u V) := by
  unfold fX3_reckonPart
  simp only [gi_n hn (show 60 < 2 ^ 31 by omega), clamp_n (show n < 2 ^ 31 by omega)]
  rcases h with ⟨hk, hr⟩ | ⟨hk, hr, j, hj, hl⟩ | ⟨hk, hr, a, ha, hl⟩ | ⟨hk, a, b, ha, hb, hl, hr⟩ | ⟨hk, a, e, ha, he, hl, hr⟩
  · simp [valRow, hk]
  · simp [valRow, hk, hl, gi_n hj (show 6 < 2 ^ 31 by omega)]
  · simp [valRow, hk, hl, gi_n (show a < 60 by omega) (show 60 < 2 ^ 31 by omega)]
  · rcases hk with hk | hk | hk <;> simp [valRow, hk, hl, hr, gi_n (show a < 60 by omega) (show 60 < 2 ^ 31 by omega), gi_n (show b < 60 by omega) (show 60 < 2 ^ 31 by omega)]
  · simp [valRow, hk, hl, hr, gi_n (show a < 60 by omega) (show 60 < 2 ^ 31 by omega), c_power _ (show e < 900 by omega), bnd1_s, clamp_n (show e < 2 ^ 31 by omega)]
/-- the first n rows laid -/
def valsTo (K L R u : Nat → Int32) : Nat → (Nat → Int64) → Nat → Int64
  | 0, V => V
  | n + 1, V => vp_updL (valsTo K L R u n V) n (valRow (K n) (L n) (R n) u (valsTo K L R u n V))
theorem c_reckon_loop {sz : Nat} (hsz : sz ≤ 60) {K L R : Nat → Int32} (h : ∀ n, n < sz → rowOK n (K n) (L n) (R n)) (rt : Int32) (u : Nat → Int32) (V : Nat → Int64) (E : (Nat → Int64) → Option (Int64 × (Nat → Int64))) :
    ∀ (f j : Nat), j ≤ sz → sz - j < f → LX3_reckonBy_2 K L R (nI sz) rt u E f (nI j) (valsTo K L R u j V) = E (valsTo K L R u sz V)
  | 0, j, _, q => absurd q (Nat.not_lt_zero _)
  | f + 1, j, hj, q => by
    rw [LX3_reckonBy_2]
    by_cases hc : sz ≤ j
    · have : j = sz := by omega
      subst this
      rw [if_pos ((nI_leI (by omega) (by omega)).mpr hc)]
    · rw [if_neg (fun q => hc ((nI_leI (by omega) (by omega)).mp q)), c_reckonPart (by omega) (h j (by omega)), bnd1_s, gi_n (show j < 60 by omega) (by omega), nI_1, clamp_n (by omega)]
      exact c_reckon_loop hsz h rt u V E f (j + 1) (by omega) (by omega)
theorem c_reckonBy {sz rt : Nat} (hsz : sz ≤ 60) {K L R : Nat → Int32} (h : ∀ n, n < sz → rowOK n (K n) (L n) (R n)) (hr : rt < 60) (u : Nat → Int32) (V : Nat → Int64) :
    fX3_reckonBy K L R V (nI sz) (nI rt) u = some (valsTo K L R u sz V rt, valsTo K L R u sz V) := by
  unfold fX3_reckonBy
  rw [show (0 : Int32) = nI 0 from rfl, show V = valsTo K L R u 0 V from rfl, c_reckon_loop hsz h (nI rt) u V _ 1000 0 (by omega) (by omega), gi_n hr (by omega), clamp_n (by omega)]
  rfl
/-! ===== the same rows in the reference ===== -/
/-- two walks over the same rows agree, whatever was there before -/
theorem valsTo_agree {K L R u : Nat → Int32} {V V2 : Nat → Int64} : ∀ {n : Nat}, n ≤ 60 → (∀ j, j < n → rowOK j (K j) (L j) (R j)) → ∀ j, j < n → valsTo K L R u n V j = valsTo K L R u n V2 j
  | 0, _, _, j, hj => absurd hj (Nat.not_lt_zero _)
  | n + 1, hn, h, j, hj => by
    have ih := valsTo_agree (u := u) (V := V) (V2 := V2) (n := n) (by omega) (fun j q => h j (by omega))
    show vp_updL _ n _ j = vp_updL _ n _ j
    rw [updL_at, updL_at]
    by_cases e : j = n
    · rw [if_pos e, if_pos e]
      rcases h n (by omega) with ⟨hk, hr⟩ | ⟨hk, hr, a, ha, hl⟩ | ⟨hk, hr, a, ha, hl⟩ | ⟨hk, a, b, ha, hb, hl, hr⟩ | ⟨hk, a, e, ha, he, hl, hr⟩
      · simp [valRow, hk]
      · simp [valRow, hk]
      · simp [valRow, hk, hl, clamp_n (show a < 2 ^ 31 by omega), ih a ha]
      · rcases hk with hk | hk | hk <;> simp [valRow, hk, hl, hr, clamp_n (show a < 2 ^ 31 by omega), clamp_n (show b < 2 ^ 31 by omega), ih a ha, ih b hb]
      · simp [valRow, hk, hl, clamp_n (show a < 2 ^ 31 by omega), ih a ha]
    · rw [if_neg e, if_neg e]
      exact ih j (by omega)
/-! ===== sensitivities, forward ===== -/
def powSl (l r : Int32) (V : Nat → Int64) : Int64 := if r = 0 then 0 else r.toInt64 * powL (V l.toNatClampNeg) (r.toNatClampNeg - 1)
def slopeRow (k l r i : Int32) (V S : Nat → Int64) : Int64 :=
  if k = 0 then 0 else if k = 1 then (if l = i then 1 else 0) else if k = 2 then -(S l.toNatClampNeg) else if k = 3 then S l.toNatClampNeg + S r.toNatClampNeg else if k = 4 then S l.toNatClampNeg - S r.toNatClampNeg else if k = 5 then V l.toNatClampNeg * S r.toNatClampNeg + S l.toNatClampNeg * V r.toNatClampNeg else powSl l r V * S l.toNatClampNeg
theorem c_powerSlope {n a e : Nat} (hn : n < 60) (ha : a < 60) (he : e < 5) {L R : Nat → Int32} (hl : L n = nI a) (hr : R n = nI e) (V : Nat → Int64) :
    fX3_powerSlope (nI n) L R V = some (powSl (L n) (R n) V) := by
  unfold fX3_powerSlope powSl
  rw [gi_n hn (by omega), gi_n hn (by omega), clamp_n (show n < 2 ^ 31 by omega), hl, hr, gi_n ha (by omega), clamp_n (show a < 2 ^ 31 by omega), clamp_n (show e < 2 ^ 31 by omega)]
  by_cases h0 : nI e = 0
  · rw [if_pos h0, if_pos h0]
  · rw [if_neg h0, if_neg h0]
    obtain ⟨e2, rfl⟩ : ∃ e2, e = e2 + 1 := by
      cases e with
      | zero => exact absurd rfl h0
      | succ e2 => exact ⟨e2, rfl⟩
    rw [nI_pred, c_power _ (show e2 < 900 by omega), bnd1_s]
    rfl
theorem c_slopeOfPart {n : Nat} (hn : n < 60) {K L R : Nat → Int32} (h : rowOK n (K n) (L n) (R n)) (i : Int32) (V S : Nat → Int64) :
    fX3_slopeOfPart (nI n) i K L R V S = some (slopeRow (K n) (L n) (R n) i V S) := by
  unfold fX3_slopeOfPart
  simp only [gi_n hn (show 60 < 2 ^ 31 by omega), clamp_n (show n < 2 ^ 31 by omega)]
  rcases h with ⟨hk, hr⟩ | ⟨hk, hr, j, hj, hl⟩ | ⟨hk, hr, a, ha, hl⟩ | ⟨hk, a, b, ha, hb, hl, hr⟩ | ⟨hk, a, e, ha, he, hl, hr⟩
  · simp [slopeRow, hk]
  · by_cases hi : L n = i
    · simp [slopeRow, hk, hi]
    · simp [slopeRow, hk, hi]
  · simp [slopeRow, hk, hl, gi_n (show a < 60 by omega) (show 60 < 2 ^ 31 by omega)]
  · rcases hk with hk | hk | hk <;> simp [slopeRow, hk, hl, hr, gi_n (show a < 60 by omega) (show 60 < 2 ^ 31 by omega), gi_n (show b < 60 by omega) (show 60 < 2 ^ 31 by omega)]
  · have e1 := c_powerSlope hn (show a < 60 by omega) he hl hr V
    simp [slopeRow, hk, e1, bnd1_s, hl, gi_n (show a < 60 by omega) (show 60 < 2 ^ 31 by omega)]
def slopesTo (K L R : Nat → Int32) (i : Int32) (V : Nat → Int64) : Nat → (Nat → Int64) → Nat → Int64
  | 0, S => S
  | n + 1, S => vp_updL (slopesTo K L R i V n S) n (slopeRow (K n) (L n) (R n) i V (slopesTo K L R i V n S))
theorem c_slope_loop {sz : Nat} (hsz : sz ≤ 60) {K L R : Nat → Int32} (h : ∀ n, n < sz → rowOK n (K n) (L n) (R n)) (rt i : Int32) (u : Nat → Int32) (V S : Nat → Int64) (E : (Nat → Int64) → (Nat → Int64) → Option (Int64 × (Nat → Int64) × (Nat → Int64))) :
    ∀ (f j : Nat), j ≤ sz → sz - j < f → LX3_slopeForward_8 K L R (nI sz) rt u i E f (nI j) V (slopesTo K L R i V j S) = E V (slopesTo K L R i V sz S)
  | 0, j, _, q => absurd q (Nat.not_lt_zero _)
  | f + 1, j, hj, q => by
    rw [LX3_slopeForward_8]
    by_cases hc : sz ≤ j
    · have : j = sz := by omega
      subst this
      rw [if_pos ((nI_leI (by omega) (by omega)).mpr hc)]
    · rw [if_neg (fun q => hc ((nI_leI (by omega) (by omega)).mp q)), c_slopeOfPart (by omega) (h j (by omega)), bnd1_s, gi_n (show j < 60 by omega) (by omega), nI_1, clamp_n (by omega)]
      exact c_slope_loop hsz h rt i u V S E f (j + 1) (by omega) (by omega)
theorem c_slopeForward {sz rt : Nat} (hsz : sz ≤ 60) {K L R : Nat → Int32} (h : ∀ n, n < sz → rowOK n (K n) (L n) (R n)) (hr : rt < 60) (i : Int32) (u : Nat → Int32) (V S : Nat → Int64) :
    fX3_slopeForward i K L R V S (nI sz) (nI rt) u = some (slopesTo K L R i (valsTo K L R u sz V) sz S rt, valsTo K L R u sz V, slopesTo K L R i (valsTo K L R u sz V) sz S) := by
  unfold fX3_slopeForward
  rw [c_reckonBy hsz h hr, bnd2_s]
  have e := c_slope_loop hsz h (nI rt) i u (valsTo K L R u sz V) S (fun Fvalues Fslopes => gi (nI rt) 60 (some (Fslopes (nI rt).toNatClampNeg, Fvalues, Fslopes))) 1000 0 (by omega) (by omega)
  refine Eq.trans e ?_
  show gi (nI rt) 60 _ = _
  rw [gi_n hr (by omega), clamp_n (by omega)]
theorem slopesTo_agree {K L R : Nat → Int32} {i : Int32} {V V2 S S2 : Nat → Int64} : ∀ {n : Nat}, n ≤ 60 → (∀ j, j < n → rowOK j (K j) (L j) (R j)) → (∀ j, j < n → V j = V2 j) → ∀ j, j < n → slopesTo K L R i V n S j = slopesTo K L R i V2 n S2 j
  | 0, _, _, _, j, hj => absurd hj (Nat.not_lt_zero _)
  | n + 1, hn, h, hV, j, hj => by
    have ih := slopesTo_agree (i := i) (S := S) (S2 := S2) (n := n) (by omega) (fun j q => h j (by omega)) (fun j q => hV j (by omega))
    show vp_updL _ n _ j = vp_updL _ n _ j
    rw [updL_at, updL_at]
    by_cases e : j = n
    · rw [if_pos e, if_pos e]
      rcases h n (by omega) with ⟨hk, hr⟩ | ⟨hk, hr, a, ha, hl⟩ | ⟨hk, hr, a, ha, hl⟩ | ⟨hk, a, b, ha, hb, hl, hr⟩ | ⟨hk, a, e, ha, he, hl, hr⟩
      · simp [slopeRow, hk]
      · simp [slopeRow, hk]
      · simp [slopeRow, hk, hl, clamp_n (show a < 2 ^ 31 by omega), ih a ha]
      · rcases hk with hk | hk | hk <;> simp [slopeRow, hk, hl, hr, clamp_n (show a < 2 ^ 31 by omega), clamp_n (show b < 2 ^ 31 by omega), ih a ha, ih b hb, hV a (by omega), hV b (by omega)]
      · simp [slopeRow, powSl, hk, hl, clamp_n (show a < 2 ^ 31 by omega), ih a ha, hV a (by omega)]
    · rw [if_neg e, if_neg e]
      exact ih j (by omega)
